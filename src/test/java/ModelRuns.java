import java.util.ArrayDeque;
import java.util.ArrayList;
import java.util.HashSet;
import java.util.Iterator;
import java.util.List;
import java.util.Random;
import java.util.Set;
import java.util.TreeSet;

/**
 * Random runs of calls, each answer held against a second writing of the document that is as
 * literal as it can be: every tick is gone through, and sets are sets.
 */
public final class ModelRuns {
    private static int wrong = 0;
    private static int calls = 0;

    public static void main(String[] args) {
        for (int seed = 0; seed < 600; seed++) {
            new Pair(seed).go();
        }
        for (int seed = 1000; seed < 1100; seed++) {
            new Pair(seed).goWide();
        }
        for (int seed = 2000; seed < 2040; seed++) {
            new Pair(seed).goLong();
        }
        for (int seed = 3000; seed < 3012; seed++) {
            new Pair(seed).goCubic();
        }
        new Pair(4000).goOvertaken();
        int number = new Pair(4001).goFarInRecovery(-1);
        new Pair(4002).goFarInRecovery(number);
        System.out.println(calls + " calls, " + wrong + " wrong answers");
        if (wrong != 0) {
            System.exit(1);
        }
    }

    /** The class and the model, asked the same. */
    private static final class Pair {
        private final int seed;
        private final Random random;
        private final CongestionBench bench = new CongestionBench();
        private final Model model = new Model();
        private int left = 512;

        Pair(int seed) {
            this.seed = seed;
            this.random = new Random(seed);
        }

        void due(String call, int got, int want) {
            calls++;
            left--;
            if (got != want && wrong++ < 20) {
                System.out.println("seed " + seed + ": " + call + " answered " + got + ", due is " + want);
            }
        }

        int pick(int... numbers) {
            return numbers[random.nextInt(numbers.length)];
        }

        void go() {
            int flows = 1 + random.nextInt(4);
            int oneKind = random.nextInt(8);
            for (int i = 0; i < flows; i++) {
                addFlow(oneKind < 4 ? oneKind : random.nextInt(4));
            }
            if (random.nextInt(3) > 0) {
                changeLink();
            }
            int style = random.nextInt(4);
            while (left > 120) {
                act(flows, style);
            }
            lookAtAll();
        }

        /** Wide windows and bursts of losses: long RECOVERIES, and ACKS that overtake. */
        void goWide() {
            int kind = pick(3, 3, 2, 1);
            due("flow", bench.flow(kind, false), model.flow(kind, false));
            due("window", bench.window(0, 200), model.window(0, 200));
            due("send", bench.send(0, 100000), model.send(0, 100000));
            due("link", bench.link(1, 100, 150, 150) ? 1 : 0, model.link(1, 100, 150, 150) ? 1 : 0);
            due("run(2500)", bench.run(2500), model.run(2500));
            while (left > 120) {
                int from = model.sent + random.nextInt(100);
                for (int i = random.nextInt(12); i > 0; i--) {
                    int n = from + random.nextInt(120);
                    due("lose(" + n + ")", bench.lose(n) ? 1 : 0, model.lose(n) ? 1 : 0);
                }
                if (random.nextInt(4) == 0) {
                    int back = 1 + random.nextInt(300);
                    due("link(1, 100, 150, " + back + ")", bench.link(1, 100, 150, back) ? 1 : 0,
                        model.link(1, 100, 150, back) ? 1 : 0);
                }
                for (int i = random.nextInt(8); i > 0; i--) {
                    int ticks = 1 + random.nextInt(200);
                    due("run(" + ticks + ")", bench.run(ticks), model.run(ticks));
                    due("sender(0, 18)", bench.sender(0, 18), model.sender(0, 18));
                    lookOnce(0);
                }
            }
            lookAtAll();
        }

        void both(int ticks) {
            due("run(" + ticks + ")", bench.run(ticks), model.run(ticks));
        }

        void bothLose(int n) {
            due("lose(" + n + ")", bench.lose(n) ? 1 : 0, model.lose(n) ? 1 : 0);
        }

        void bothLink(int service, int way, int back) {
            due("link(" + service + ", 100, " + way + ", " + back + ")",
                bench.link(service, 100, way, back) ? 1 : 0, model.link(service, 100, way, back) ? 1 : 0);
        }

        void bothWindow(int segments) {
            due("window(0, " + segments + ")", bench.window(0, segments), model.window(0, segments));
        }

        void start(int kind, int way, int segments) {
            due("flow", bench.flow(kind, false), model.flow(kind, false));
            bothWindow(segments);
            bothLink(1, way, way);
            for (int i = 0; i < 10; i++) {
                due("send", bench.send(0, 100000), model.send(0, 100000));
            }
        }

        void lookAtSender() {
            for (int what = 0; what < 19; what++) {
                due("sender(0, " + what + ")", bench.sender(0, what), model.sender(0, what));
            }
        }

        /** Long ways and one loss: CWND comes back to WMAX and stays about it for long. */
        void goCubic() {
            start(2, 100 + random.nextInt(300), 200);
            both(9000);
            for (int i = 0; i < 3; i++) {
                bothLose(model.sent + 20);
                for (int j = 0; j < 200; j++) {
                    both(1 + random.nextInt(200));
                    lookAtSender();
                }
            }
        }

        /** ACKS with a shorter BOARD come behind others: what was LOST and sent again is so no more. */
        void goOvertaken() {
            start(3, 150, 200);
            bothLink(2, 150, 150);
            both(4500);
            int hole = model.sent;
            bothLose(hole);
            bothLose(hole + 100);
            while (model.all.get(0).kept.size() < 115) {
                both(1);
            }
            bothLink(2, 150, 31);
            for (int i = 0; i < 600; i++) {
                both(1);
                lookAtSender();
            }
        }

        /**
         * A RECOVERY that goes on until SEGMENTS 256 behind its first one are sent, as its second
         * hole is lost again: a first run, without a number to lose, finds the number of that.
         */
        int goFarInRecovery(int number) {
            start(3, 150, 140);
            both(2500);
            Flow f = model.all.get(0);
            int hole = model.sent;
            bothLose(hole);
            bothLose(hole + 100);
            if (number >= 0) {
                bothLose(number);
            }
            while (!f.recovery) {
                both(1);
            }
            bothWindow(200);
            int first = f.una;
            while (f.again == 1) {
                number = model.sent;
                both(1);
            }
            int furthest = 0;
            for (int i = 0; i < 900; i++) {
                both(1);
                lookAtSender();
                furthest = f.recovery && f.recoveries == 1 ? f.nxt - first : furthest;
            }
            due("sent again at " + number + " goes beyond 256", furthest > 256 ? 1 : 0, seed == 4002 ? 1 : 0);
            return number;
        }

        /** Many ticks with much to send and long ways, so that sums grow as far as they go. */
        void goLong() {
            for (int kind = 0; kind < 4; kind++) {
                due("flow", bench.flow(kind, false), model.flow(kind, false));
                due("window", bench.window(kind, 200), model.window(kind, 200));
                for (int i = 0; i < 10; i++) {
                    due("send", bench.send(kind, 100000), model.send(kind, 100000));
                }
            }
            int room = random.nextInt(101);
            int way = 300 + random.nextInt(701);
            due("link", bench.link(1, room, way, way) ? 1 : 0, model.link(1, room, way, way) ? 1 : 0);
            while (left > 120) {
                int ticks = 1 + random.nextInt(2000);
                due("run(" + ticks + ")", bench.run(ticks), model.run(ticks));
                look(random.nextInt(4));
            }
            lookAtAll();
        }

        void act(int flows, int style) {
            int f = random.nextInt(flows);
            switch (random.nextInt(12)) {
                case 0: {
                    int n = pick(1, 5, 30, 200, 2000, 100000);
                    due("send(" + f + ", " + n + ")", bench.send(f, n), model.send(f, n));
                    break;
                }
                case 1:
                    if (style != 0) {
                        int n = pick(0, 0, 1, 2, 3, 10, 40, 100, 200, 201);
                        due("window(" + f + ", " + n + ")", bench.window(f, n), model.window(f, n));
                    }
                    break;
                case 2:
                case 3:
                    if (style >= 2) {
                        for (int i = 0; i < 4; i++) {
                            int n = model.sent + random.nextInt(60) - 3;
                            due("lose(" + n + ")", bench.lose(n) ? 1 : 0, model.lose(n) ? 1 : 0);
                        }
                    }
                    break;
                case 4:
                    if (style == 3 && random.nextInt(3) == 0) {
                        changeLink();
                    }
                    break;
                case 5:
                case 6:
                    look(f);
                    break;
                default: {
                    int n = pick(1, 1, 2, 7, 20, 50, 100, 300, 1000, 3000, random.nextInt(8000));
                    due("run(" + n + ")", bench.run(n), model.run(n));
                    lookOnce(f);
                }
            }
        }

        void addFlow(int kind) {
            boolean late = random.nextInt(3) == 0;
            due("flow(" + kind + ", " + late + ")", bench.flow(kind, late), model.flow(kind, late));
        }

        void changeLink() {
            int s = pick(1, 1, 2, 5, 10, 30, 100, 101);
            int r = pick(0, 1, 3, 10, 20, 50, 100);
            int f = pick(1, 2, 20, 100, 400, 1000);
            int b = pick(1, 2, 20, 100, 400, 1000);
            due("link(" + s + ", " + r + ", " + f + ", " + b + ")",
                bench.link(s, r, f, b) ? 1 : 0, model.link(s, r, f, b) ? 1 : 0);
        }

        void lookOnce(int f) {
            int what = random.nextInt(19);
            due("sender(" + f + ", " + what + ")", bench.sender(f, what), model.sender(f, what));
            what = random.nextInt(10);
            due("count(" + what + ")", bench.count(what), model.count(what));
        }

        void look(int f) {
            for (int i = 0; i < 3; i++) {
                lookOnce(f);
            }
            int what = random.nextInt(7);
            due("receiver(" + f + ", " + what + ")", bench.receiver(f, what), model.receiver(f, what));
            int k = random.nextInt(5) - 1;
            due("kept(" + f + ", " + k + ")", bench.kept(f, k), model.kept(f, k));
            due("most(" + f + ")", bench.most(f), model.most(f));
        }

        void lookAtAll() {
            for (int f = 0; f < model.all.size(); f++) {
                for (int what = 0; what < 19; what++) {
                    due("sender(" + f + ", " + what + ")", bench.sender(f, what), model.sender(f, what));
                }
                for (int what = 0; what < 7; what++) {
                    due("receiver(" + f + ", " + what + ")", bench.receiver(f, what), model.receiver(f, what));
                }
                due("most(" + f + ")", bench.most(f), model.most(f));
            }
            for (int what = 0; what < 10; what++) {
                due("count(" + what + ")", bench.count(what), model.count(what));
            }
        }
    }

    private record Segment(Flow flow, int number, boolean probe, int comes) { }

    private record Ack(Flow flow, int next, int window, TreeSet<Integer> board, boolean noDuplicate, int comes) { }

    private static final class Flow {
        int kind;
        boolean late;
        // the receiver
        int next;
        int window = 40;
        TreeSet<Integer> kept = new TreeSet<>();
        int acks;
        int came;
        int useless;
        int owed = -1;
        boolean changed;
        // the sender
        int goal;
        int una;
        int nxt;
        int high;
        int cwnd = 2048;
        int most = 2048;
        int ssthresh = 1048576;
        int w = 40;
        int dup;
        boolean recovery;
        int recover;
        Set<Integer> board = new HashSet<>();
        Set<Integer> resent = new HashSet<>();
        int unaAtBegin;
        int timer = -1;
        int rto = 1000;
        int srtt;
        int var;
        boolean known;
        int measured = -1;
        int measuredAt;
        int timeouts;
        int recoveries;
        int again;
        int probes;
        int wmax;
        int k;
        int epoch = -1;
        long origin;
        long est;

        void cwnd(long to) {
            cwnd = (int) Math.min(262144L, to);
            most = Math.max(most, cwnd);
        }

        boolean lost(int n) {
            if (board.contains(n) || n < una || n >= high) {
                return false;
            }
            int above = 0;
            for (int b : board) {
                above += b > n ? 1 : 0;
            }
            return above >= 3 || recovery && n == unaAtBegin;
        }

        int out() {
            if (kind != 3 || !recovery) {
                return nxt - una;
            }
            int pipe = 0;
            for (int n = una; n < nxt; n++) {
                pipe += !board.contains(n) && !lost(n) ? 1 : 0;
            }
            for (int n : resent) {
                pipe += n >= una && !board.contains(n) ? 1 : 0;
            }
            return pipe;
        }
    }

    private static final class Model {
        final List<Flow> all = new ArrayList<>();
        int t;
        int service = 10;
        int room = 20;
        int forward = 20;
        int back = 20;
        Segment onLink;
        int linkUntil;
        final ArrayDeque<Segment> queue = new ArrayDeque<>();
        final List<Segment> way = new ArrayList<>();
        final List<Ack> acks = new ArrayList<>();
        final Set<Integer> told = new HashSet<>();
        int sent;
        int dropped;
        int lost;
        int came;

        boolean link(int s, int r, int f, int b) {
            if (s < 1 || s > 100 || r < 0 || r > 100 || f < 1 || f > 1000 || b < 1 || b > 1000) {
                return false;
            }
            service = s;
            room = r;
            forward = f;
            back = b;
            return true;
        }

        int flow(int kind, boolean late) {
            if (all.size() == 4 || kind < 0 || kind > 3) {
                return -1;
            }
            Flow f = new Flow();
            f.kind = kind;
            f.late = late;
            all.add(f);
            return all.size() - 1;
        }

        int send(int flow, int n) {
            Flow f = all.get(flow);
            if (n < 1 || n > 100000 || f.goal + n > 1000000) {
                return -1;
            }
            f.goal += n;
            return f.goal;
        }

        int window(int flow, int n) {
            Flow f = all.get(flow);
            if (n < 0 || n > 200) {
                return -1;
            }
            int was = f.window;
            f.changed |= was != n;
            f.window = n;
            return was;
        }

        boolean lose(int n) {
            if (n < sent || told.size() == 64) {
                return false;
            }
            told.add(n);
            return true;
        }

        int run(int ticks) {
            if (ticks < 1 || ticks > 20000) {
                return -1;
            }
            int before = sent;
            for (int i = 0; i < ticks; i++) {
                tick();
                t++;
            }
            return sent - before;
        }

        void tick() {
            if (onLink != null && linkUntil == t) {
                way.add(new Segment(onLink.flow, onLink.number, onLink.probe, t + forward));
                onLink = queue.poll();
                linkUntil = t + service;
            }
            for (Iterator<Segment> i = way.iterator(); i.hasNext();) {
                Segment s = i.next();
                if (s.comes == t) {
                    i.remove();
                    comes(s);
                }
            }
            for (Flow f : all) {
                if (f.changed) {
                    f.changed = false;
                    ack(f, true);
                }
            }
            for (Flow f : all) {
                if (f.owed == t) {
                    ack(f, false);
                }
            }
            for (Iterator<Ack> i = acks.iterator(); i.hasNext();) {
                Ack a = i.next();
                if (a.comes == t) {
                    i.remove();
                    hear(a.flow, a);
                }
            }
            for (Flow f : all) {
                if (f.timer == t) {
                    timer(f);
                }
            }
            for (Flow f : all) {
                sendAll(f);
            }
        }

        void put(Flow f, int number, boolean probe) {
            if (told.remove(sent++)) {
                lost++;
            } else if (onLink == null) {
                onLink = new Segment(f, number, probe, -1);
                linkUntil = t + service;
            } else if (queue.size() < room) {
                queue.add(new Segment(f, number, probe, -1));
            } else {
                dropped++;
            }
        }

        void ack(Flow f, boolean noDuplicate) {
            f.owed = -1;
            f.acks++;
            acks.add(new Ack(f, f.next, f.window, new TreeSet<>(f.kept), noDuplicate, t + back));
        }

        void comes(Segment s) {
            Flow f = s.flow;
            came++;
            f.came++;
            boolean wait = false;
            if (s.number < f.next || s.number >= f.next + f.window) {
                f.useless++;
            } else if (s.number == f.next) {
                wait = f.late && f.kept.isEmpty() && f.owed == -1;
                f.next++;
                while (f.kept.remove(f.next)) {
                    f.next++;
                }
            } else if (!f.kept.add(s.number)) {
                f.useless++;
            }
            if (wait) {
                f.owed = t + 100;
            } else {
                ack(f, s.probe);
            }
        }

        void transmit(Flow f, int n) {
            if (n < f.high) {
                f.again++;
                f.resent.add(n);
                if (f.measured == n) {
                    f.measured = -1;
                }
            } else {
                f.high = n + 1;
                if (f.measured == -1) {
                    f.measured = n;
                    f.measuredAt = t;
                }
            }
            if (f.timer == -1) {
                f.timer = t + f.rto;
            }
            put(f, n, false);
        }

        void sendAll(Flow f) {
            boolean more = true;
            while (more) {
                more = false;
                if (f.out() < f.cwnd / 1024) {
                    int least = -1;
                    if (f.kind == 3 && f.recovery) {
                        for (int n = f.high - 1; n >= f.una; n--) {
                            least = f.lost(n) && !f.resent.contains(n) ? n : least;
                        }
                    }
                    if (least != -1) {
                        transmit(f, least);
                        more = true;
                    } else if (f.nxt < f.goal && f.nxt < f.una + f.w) {
                        transmit(f, f.nxt);
                        f.nxt++;
                        more = true;
                    }
                }
            }
            if (f.w == 0 && f.nxt == f.una && f.nxt < f.goal && f.timer == -1) {
                f.timer = t + f.rto;
            }
        }

        void loss(Flow f) {
            if (f.kind == 2) {
                f.wmax = f.cwnd < f.wmax ? f.cwnd * 85 / 100 : f.cwnd;
                f.ssthresh = Math.max(2048, f.cwnd * 7 / 10);
                f.epoch = -1;
            } else {
                f.ssthresh = Math.max(2048, (f.nxt - f.una) * 512);
            }
        }

        void timer(Flow f) {
            f.timer = -1;
            f.measured = -1;
            if (f.nxt > f.una) {
                loss(f);
                f.cwnd(1024);
                f.rto = Math.min(60000, 2 * f.rto);
                f.timeouts++;
                f.recovery = false;
                f.dup = 0;
                f.recover = f.high;
                f.nxt = f.una;
                f.board.clear();
            } else if (f.w == 0) {
                f.high = Math.max(f.high, f.nxt + 1);
                f.probes++;
                put(f, f.nxt, true);
                f.rto = Math.min(60000, 2 * f.rto);
                f.timer = t + f.rto;
            }
        }

        void hear(Flow f, Ack a) {
            if (a.next < f.una) {
                return;
            }
            if (a.next > f.una) {
                hearMore(f, a);
                return;
            }
            boolean duplicate = a.window == f.w && f.nxt > f.una && !a.noDuplicate;
            f.w = a.window;
            f.board = new HashSet<>(a.board);
            if (f.w > 0 && f.nxt == f.una) {
                f.timer = -1;
            }
            if (!duplicate) {
                return;
            }
            f.dup++;
            if (f.recovery) {
                f.cwnd(f.kind == 3 ? f.cwnd : f.cwnd + 1024);
            } else if (f.dup == 3 && (f.kind == 0 || f.una >= f.recover)) {
                loss(f);
                f.recovery = true;
                f.recoveries++;
                f.recover = f.high;
                f.resent.clear();
                f.unaAtBegin = f.una;
                transmit(f, f.una);
                f.cwnd(f.kind == 3 ? f.ssthresh : f.ssthresh + 3072);
            }
        }

        void hearMore(Flow f, Ack a) {
            if (f.measured != -1 && a.next > f.measured) {
                measure(f, t - f.measuredAt);
                f.measured = -1;
            }
            int n = a.next - f.una;
            f.una = a.next;
            f.nxt = Math.max(f.nxt, f.una);
            f.w = a.window;
            f.board = new HashSet<>(a.board);
            f.timer = f.nxt > f.una ? t + f.rto : -1;
            if (!f.recovery) {
                f.dup = 0;
                if (f.cwnd < f.ssthresh) {
                    f.cwnd(f.cwnd + 1024);
                } else if (f.kind == 2) {
                    growCubic(f);
                } else {
                    f.cwnd(f.cwnd + Math.max(1, 1048576 / f.cwnd));
                }
            } else if (f.kind == 0 || a.next >= f.recover) {
                f.cwnd(f.ssthresh);
                f.recovery = false;
                f.dup = 0;
            } else if (f.kind != 3) {
                transmit(f, f.una);
                f.cwnd(Math.max(1024, f.cwnd - 1024 * n + 1024));
            }
        }

        void measure(Flow f, int r) {
            if (!f.known) {
                f.known = true;
                f.srtt = 8 * r;
                f.var = 2 * r;
            } else {
                f.var = f.var - f.var / 4 + Math.abs(f.srtt / 8 - r);
                f.srtt = f.srtt - f.srtt / 8 + r;
            }
            f.rto = Math.max(200, Math.min(60000, f.srtt / 8 + Math.max(1, f.var)));
        }

        void growCubic(Flow f) {
            if (f.epoch == -1) {
                f.epoch = t;
                f.k = 0;
                if (f.cwnd < f.wmax) {
                    long bound = (long) (f.wmax - f.cwnd) * 2500000000L / 1024;
                    while ((f.k + 1L) * (f.k + 1L) * (f.k + 1L) <= bound) {
                        f.k++;
                    }
                }
                f.origin = Math.max(f.wmax, f.cwnd);
                f.est = f.cwnd;
            }
            long d = t - f.epoch + f.srtt / 8 - f.k;
            d = Math.max(-100000, Math.min(100000, d));
            long target = f.origin + d * d * d * 4096 / 10000000000L;
            target = Math.min(target, f.cwnd * 3L / 2);
            target = Math.max(target, f.cwnd);
            f.est += 555008 / f.cwnd;
            f.cwnd(f.cwnd + Math.max(1, (target - f.cwnd) * 1024 / f.cwnd));
            if (f.est > f.cwnd) {
                f.cwnd(f.est);
            }
        }

        int sender(int flow, int what) {
            Flow f = all.get(flow);
            int[] answers = {f.una, f.nxt, f.high, f.cwnd, f.ssthresh, f.rto, f.srtt, f.var, f.dup,
                f.recovery ? 1 : 0, f.timeouts, f.recoveries, f.again, f.w, f.timer, f.probes, f.wmax, f.k, f.out()};
            return answers[what];
        }

        int receiver(int flow, int what) {
            Flow f = all.get(flow);
            int[] answers = {f.next, f.kept.size(), f.window, f.acks, f.came, f.useless, f.owed};
            return answers[what];
        }

        int kept(int flow, int k) {
            List<Integer> kept = new ArrayList<>(all.get(flow).kept);
            return k >= 0 && k < kept.size() ? kept.get(k) : -1;
        }

        int most(int flow) {
            return all.get(flow).most;
        }

        int count(int what) {
            int[] answers = {t, all.size(), sent, queue.size(), dropped, lost, way.size(), acks.size(),
                onLink == null ? 0 : 1, came};
            return answers[what];
        }
    }
}
