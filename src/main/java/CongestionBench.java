/**
 * Senders that share one narrow link, and slow down in time: Reno, NewReno, CUBIC in whole
 * numbers and SACK, tick by tick. The words in capitals are those of the document.
 */
public final class CongestionBench {
    public static final int NONE = -1;

    private static final int RENO = 0;
    private static final int CUBIC = 2;
    private static final int SACK = 3;

    private static final int MOST_FLOWS = 4;
    private static final int MOST_AT_ONCE = 100000;
    private static final int MOST_SEGMENTS = 1000000;
    private static final int MOST_WINDOW = 200;
    private static final int FIRST_WINDOW = 40;
    private static final int MOST_TOLD = 64;
    private static final int MOST_TICKS_AT_ONCE = 20000;
    private static final int MOST_TICKS = 100000000;
    private static final int LATE_TICKS = 100;

    private static final int FIXED = 1024;
    private static final int MOST_CWND = 262144;
    private static final int FIRST_CWND = 2048;
    private static final int FIRST_SSTHRESH = 1048576;
    private static final int LEAST_SSTHRESH = 2048;

    private static final int FIRST_RTO = 1000;
    private static final int LEAST_RTO = 200;
    private static final int MOST_RTO = 60000;

    private static final int NEVER = 2147483647;

    // A WINDOW and a CWND both hold a tick's sends of a flow far below this.
    private static final int MOST_SENDS = 100000;

    private final Road road = new Road();
    private Flow[] flows = new Flow[0];
    private int now;

    public CongestionBench() {
    }

    public boolean link(int service, int room, int forward, int back) {
        boolean good = within(service, 1, 100) && within(room, 0, 100)
            && within(forward, 1, 1000) && within(back, 1, 1000);
        if (good) {
            road.set(service, room, forward, back);
        }
        return good;
    }

    public int flow(int kind, boolean late) {
        int number = flows.length;
        if (number >= MOST_FLOWS || !within(kind, RENO, SACK)) {
            return NONE;
        }
        Flow[] more = new Flow[number + 1];
        for (int i = 0; i < number; i++) {
            more[i] = flows[i];
        }
        more[number] = new Flow(number, kind, late);
        flows = more;
        return number;
    }

    public int send(int flow, int segments) {
        if (!isFlow(flow) || !within(segments, 1, MOST_AT_ONCE)) {
            return NONE;
        }
        return flows[flow].sender.addGoal(segments);
    }

    public int window(int flow, int segments) {
        if (!isFlow(flow) || !within(segments, 0, MOST_WINDOW)) {
            return NONE;
        }
        return flows[flow].receiver.changeWindow(segments);
    }

    public boolean lose(int n) {
        return road.tellLost(n);
    }

    public int run(int ticks) {
        if (!within(ticks, 1, MOST_TICKS_AT_ONCE) || now > MOST_TICKS - ticks) {
            return NONE;
        }
        int before = road.sent;
        int end = now + ticks;
        for (int i = 0; i < ticks && now < end; i++) {
            road.moveLink(now);
            bringSegments();
            tellWindowsAndAnswerLate();
            bringAcks();
            for (Flow f : flows) {
                f.sender.lookAtTimer(road, now);
            }
            for (Flow f : flows) {
                f.sender.sendWhatMay(road, now);
            }
            now = nextBusyTick(end);
        }
        return road.sent - before;
    }

    public int sender(int flow, int what) {
        return isFlow(flow) ? flows[flow].sender.tell(what) : NONE;
    }

    public int receiver(int flow, int what) {
        return isFlow(flow) ? flows[flow].receiver.tell(what) : NONE;
    }

    public int kept(int flow, int k) {
        return isFlow(flow) ? flows[flow].receiver.leastKept(k) : NONE;
    }

    public int most(int flow) {
        return isFlow(flow) ? flows[flow].sender.mostCwnd : 0;
    }

    public int count(int what) {
        switch (what) {
            case 0:
                return now;
            case 1:
                return flows.length;
            default:
                return road.tell(what);
        }
    }

    private boolean isFlow(int flow) {
        return flow >= 0 && flow < flows.length;
    }

    private void bringSegments() {
        for (int left = road.way.size; left > 0; left--) {
            Parcel segment = road.way.takeDue(now);
            if (segment == null) {
                break;
            }
            road.came++;
            if (isFlow(segment.flow)) {
                flows[segment.flow].receiver.take(segment, road, now);
            }
            road.spare.append(segment);
        }
    }

    private void tellWindowsAndAnswerLate() {
        for (Flow f : flows) {
            f.receiver.tellWindow(road, now);
        }
        for (Flow f : flows) {
            f.receiver.answerLate(road, now);
        }
    }

    private void bringAcks() {
        for (int left = road.acks.size; left > 0; left--) {
            Parcel ack = road.acks.takeDue(now);
            if (ack == null) {
                break;
            }
            if (isFlow(ack.flow)) {
                flows[ack.flow].sender.hear(ack, road, now);
            }
            road.spare.append(ack);
        }
    }

    /**
     * Behind a tick nothing more may be sent, so nothing at all happens until something is due:
     * the ticks between are passed over. (Calls change things, so a run's first tick is not.)
     */
    private int nextBusyTick(int end) {
        int soonest = Math.min(end, road.nextDue());
        for (Flow f : flows) {
            soonest = Math.min(soonest, orNever(f.receiver.owedAt));
            soonest = Math.min(soonest, orNever(f.sender.timer.due));
        }
        return Math.max(now + 1, soonest);
    }

    private static int orNever(int tick) {
        return tick == NONE ? NEVER : tick;
    }

    private static boolean within(int number, int least, int most) {
        return number >= least && number <= most;
    }

    /** One sender and its receiver. */
    private static final class Flow {
        private final Sender sender;
        private final Receiver receiver;

        Flow(int number, int kind, boolean late) {
            sender = new Sender(number, kind);
            receiver = new Receiver(number, late);
        }
    }

    /**
     * A set of SEGMENTS of which any two are less than 256 apart: no WINDOW reaches further, so
     * a SEGMENT's last eight bits are enough to know it by.
     */
    private static final class Marks {
        private final long[] words = new long[4];

        boolean has(int segment) {
            return (words[(segment >> 6) & 3] >>> (segment & 63) & 1L) != 0L;
        }

        void put(int segment) {
            words[(segment >> 6) & 3] |= 1L << (segment & 63);
        }

        void drop(int segment) {
            words[(segment >> 6) & 3] &= ~(1L << (segment & 63));
        }

        void clear() {
            for (int i = 0; i < words.length; i++) {
                words[i] = 0L;
            }
        }

        boolean isEmpty() {
            return (words[0] | words[1] | words[2] | words[3]) == 0L;
        }

        void writeTo(long[] row) {
            for (int i = 0; i < words.length && i < row.length; i++) {
                row[i] = words[i];
            }
        }

        void readFrom(long[] row) {
            for (int i = 0; i < words.length && i < row.length; i++) {
                words[i] = row[i];
            }
        }
    }

    /** A SEGMENT or an ACK on its way. */
    private static final class Parcel {
        private int due;
        private int flow;
        /** The SEGMENT's number, or the NEXT that the ACK tells. */
        private int number;
        /** The SEGMENT is a PROBE, or the ACK comes of a PROBE's or a WINDOW's telling. */
        private boolean special;
        private int window;
        /** The ACK's BOARD, as Marks hold it. */
        private final long[] board = new long[4];
        private Parcel after;
    }

    /** Parcels one behind the other. */
    private static final class Chain {
        private Parcel first;
        private Parcel last;
        private int size;

        void append(Parcel parcel) {
            parcel.after = null;
            if (last == null) {
                first = parcel;
            } else {
                last.after = parcel;
            }
            last = parcel;
            size++;
        }

        /** By due ticks: a link that was changed lets later parcels overtake earlier ones. */
        void putByDue(Parcel parcel) {
            if (first == null || last == null || last.due <= parcel.due) {
                append(parcel);
                return;
            }
            size++;
            if (first.due > parcel.due) {
                parcel.after = first;
                first = parcel;
                return;
            }
            Parcel before = first;
            while (before.after != null && before.after.due <= parcel.due) {
                before = before.after;
            }
            parcel.after = before.after;
            before.after = parcel;
        }

        Parcel takeFirst() {
            Parcel taken = first;
            if (taken != null) {
                first = taken.after;
                taken.after = null;
                size--;
            }
            if (first == null) {
                last = null;
            }
            return taken;
        }

        Parcel takeDue(int now) {
            return firstDue() <= now ? takeFirst() : null;
        }

        int firstDue() {
            return first == null ? NEVER : first.due;
        }
    }

    /** The LINK with its QUEUE, the ways behind it and back, and the losses that are told. */
    private static final class Road {
        private int service = 10;
        private int room = 20;
        private int forward = 20;
        private int back = 20;
        /** Its due tick is the one at which its SERVICE ends. */
        private Parcel onLink;
        private final Chain queue = new Chain();
        private final Chain way = new Chain();
        private final Chain acks = new Chain();
        /** Parcels that are used again, so that a long run makes few. */
        private final Chain spare = new Chain();
        private final int[] told = new int[MOST_TOLD];
        private int tolds;
        private int sent;
        private int dropped;
        private int lost;
        private int came;

        void set(int newService, int newRoom, int newForward, int newBack) {
            service = newService;
            room = newRoom;
            forward = newForward;
            back = newBack;
        }

        boolean tellLost(int n) {
            if (n < sent || tolds >= MOST_TOLD) {
                return false;
            }
            if (placeOfTold(n) == NONE) {
                told[tolds] = n;
                tolds++;
            }
            return true;
        }

        void moveLink(int now) {
            Parcel done = onLink;
            if (done == null || done.due != now) {
                return;
            }
            done.due = now + forward;
            way.putByDue(done);
            Parcel following = queue.takeFirst();
            if (following != null) {
                following.due = now + service;
            }
            onLink = following;
        }

        void launch(int flow, int segment, boolean probe, int now) {
            int place = placeOfTold(sent);
            sent++;
            if (place != NONE) {
                forgetTold(place);
                lost++;
                return;
            }
            if (onLink != null && queue.size >= room) {
                dropped++;
                return;
            }
            Parcel parcel = spare.takeFirst();
            if (parcel == null) {
                parcel = new Parcel();
            }
            parcel.flow = flow;
            parcel.number = segment;
            parcel.special = probe;
            if (onLink == null) {
                parcel.due = now + service;
                onLink = parcel;
            } else {
                queue.append(parcel);
            }
        }

        void sendAck(Receiver from, boolean special, int now) {
            Parcel ack = spare.takeFirst();
            if (ack == null) {
                ack = new Parcel();
            }
            ack.flow = from.number;
            ack.number = from.next;
            ack.window = from.window;
            ack.special = special;
            from.kept.writeTo(ack.board);
            ack.due = now + back;
            acks.putByDue(ack);
        }

        int nextDue() {
            int soonest = Math.min(way.firstDue(), acks.firstDue());
            return onLink == null ? soonest : Math.min(soonest, onLink.due);
        }

        int tell(int what) {
            switch (what) {
                case 2:
                    return sent;
                case 3:
                    return queue.size;
                case 4:
                    return dropped;
                case 5:
                    return lost;
                case 6:
                    return way.size;
                case 7:
                    return acks.size;
                case 8:
                    return onLink == null ? 0 : 1;
                case 9:
                    return came;
                default:
                    return NONE;
            }
        }

        private int placeOfTold(int n) {
            for (int i = 0; i < tolds && i < told.length; i++) {
                if (told[i] == n) {
                    return i;
                }
            }
            return NONE;
        }

        private void forgetTold(int place) {
            if (place >= 0 && place < tolds && tolds <= told.length) {
                tolds--;
                told[place] = told[tolds];
            }
        }
    }

    /** Takes what comes, and answers. */
    private static final class Receiver {
        private final int number;
        private final boolean late;
        private int next;
        private int window = FIRST_WINDOW;
        private final Marks kept = new Marks();
        private int keptSize;
        private int acksSent;
        private int came;
        private int useless;
        private int owedAt = NONE;
        private boolean windowChanged;

        Receiver(int number, boolean late) {
            this.number = number;
            this.late = late;
        }

        int changeWindow(int segments) {
            int was = window;
            if (segments != was) {
                window = segments;
                windowChanged = true;
            }
            return was;
        }

        void take(Parcel parcel, Road road, int now) {
            int segment = parcel.number;
            boolean taken = segment >= next && segment < next + window;
            boolean wanted = taken && segment == next;
            boolean mayWait = late && wanted && keptSize == 0 && owedAt == NONE;
            came++;
            if (wanted) {
                goOn();
            } else if (taken && !kept.has(segment)) {
                kept.put(segment);
                keptSize++;
            } else {
                useless++;
            }
            if (mayWait) {
                owedAt = now + LATE_TICKS;
            } else {
                answer(road, parcel.special, now);
            }
        }

        void tellWindow(Road road, int now) {
            if (windowChanged) {
                windowChanged = false;
                answer(road, true, now);
            }
        }

        void answerLate(Road road, int now) {
            if (owedAt == now) {
                answer(road, false, now);
            }
        }

        int leastKept(int k) {
            int left = k;
            for (int segment = next; left >= 0 && segment < next + MOST_WINDOW; segment++) {
                if (kept.has(segment)) {
                    if (left == 0) {
                        return segment;
                    }
                    left--;
                }
            }
            return NONE;
        }

        int tell(int what) {
            switch (what) {
                case 0:
                    return next;
                case 1:
                    return keptSize;
                case 2:
                    return window;
                case 3:
                    return acksSent;
                case 4:
                    return came;
                case 5:
                    return useless;
                case 6:
                    return owedAt;
                default:
                    return NONE;
            }
        }

        private void goOn() {
            next++;
            for (; keptSize > 0 && kept.has(next); keptSize--) {
                kept.drop(next);
                next++;
            }
        }

        private void answer(Road road, boolean special, int now) {
            owedAt = NONE;
            acksSent++;
            road.sendAck(this, special, now);
        }
    }

    /** The TIMER of a sender, and the round trips that it goes by. */
    private static final class Timer {
        private int rto = FIRST_RTO;
        private int srtt;
        private int variance;
        private int due = NONE;
        private int measured = NONE;
        private int measuredSince;

        void set(int now) {
            due = now + rto;
        }

        void setIfOff(int now) {
            if (due == NONE) {
                set(now);
            }
        }

        void putOff() {
            due = NONE;
        }

        void doubleRto() {
            rto = Math.min(MOST_RTO, rto * 2);
        }

        void noteSent(int segment, boolean again, int now) {
            if (again) {
                measured = segment == measured ? NONE : measured;
            } else if (measured == NONE) {
                measured = segment;
                measuredSince = now;
            }
            setIfOff(now);
        }

        void noteTold(int next, int now) {
            if (measured != NONE && next > measured) {
                measured = NONE;
                learn(now - measuredSince);
            }
        }

        private void learn(int r) {
            if (srtt == 0) {
                srtt = 8 * r;
                variance = 2 * r;
            } else {
                variance = variance - variance / 4 + Math.abs(srtt / 8 - r);
                srtt = srtt - srtt / 8 + r;
            }
            int wanted = srtt / 8 + Math.max(1, variance);
            rto = Math.min(MOST_RTO, Math.max(LEAST_RTO, wanted));
        }
    }

    /** What a SACK sender knows of the SEGMENTS that came, and of its RECOVERY. */
    private static final class Board {
        private final Marks came = new Marks();
        private final Marks sentAgain = new Marks();
        /** The third greatest on the BOARD: three or more are above what is below it. */
        private int lostBelow;
        private int lostFirst = NONE;

        void learn(long[] told, int una, int high) {
            came.readFrom(told);
            lostBelow = 0;
            int above = 0;
            for (int n = high - 1; n > una && above < 3 && !came.isEmpty(); n--) {
                if (came.has(n)) {
                    above++;
                    lostBelow = above == 3 ? n : 0;
                }
            }
        }

        void forget() {
            came.clear();
            lostBelow = 0;
        }

        void beginRecovery(int una) {
            sentAgain.clear();
            lostFirst = una;
        }

        /** Marks below UNA must go, or they would stand for SEGMENTS 256 further on. */
        void goOn(int from, int to) {
            for (int n = from; n < to; n++) {
                sentAgain.drop(n);
            }
        }

        int leastLost(int una, int high) {
            for (int n = una; n < high; n++) {
                if (isLost(n) && !sentAgain.has(n)) {
                    return n;
                }
            }
            return NONE;
        }

        int pipe(int una, int nxt, int high) {
            int pipe = 0;
            for (int n = una; n < high; n++) {
                if (n < nxt && !came.has(n) && !isLost(n)) {
                    pipe++;
                }
                if (sentAgain.has(n) && !came.has(n)) {
                    pipe++;
                }
            }
            return pipe;
        }

        private boolean isLost(int n) {
            return n == lostFirst || n < lostBelow && !came.has(n);
        }
    }

    /** How CUBIC's CWND grows. */
    private static final class Cubic {
        private int wmax;
        private int k;
        private int epoch = NONE;
        private int origin;
        private int est;

        int noteLoss(int cwnd) {
            wmax = cwnd < wmax ? cwnd * 85 / 100 : cwnd;
            epoch = NONE;
            return Math.max(LEAST_SSTHRESH, cwnd * 7 / 10);
        }

        int grow(int cwnd, int srtt, int now) {
            if (epoch == NONE) {
                begin(cwnd, now);
            }
            long d = Math.max(-100000, Math.min(100000, now - epoch + srtt / 8 - k));
            long wanted = origin + d * d * d * 4096L / 10000000000L;
            long target = Math.max(cwnd, Math.min(wanted, cwnd * 3 / 2));
            long divisor = Math.max(1, cwnd);
            est += (int) (555008L / divisor);
            int grown = cwnd + (int) Math.max(1L, (target - cwnd) * 1024L / divisor);
            return Math.max(grown, est);
        }

        private void begin(int cwnd, int now) {
            epoch = now;
            k = cwnd < wmax ? cubeRoot((wmax - cwnd) * 2500000000L / 1024L) : 0;
            origin = Math.max(wmax, cwnd);
            est = cwnd;
        }

        /** CWND's bound keeps the root below 8700, so fourteen bits hold it. */
        private static int cubeRoot(long number) {
            long root = 0L;
            for (long bit = 8192L; bit > 0L; bit = bit / 2L) {
                long tried = root + bit;
                if (tried * tried * tried <= number) {
                    root = tried;
                }
            }
            return (int) root;
        }
    }

    /** Sends, hears ACKS, and slows down. */
    private static final class Sender {
        private final int number;
        private final int kind;
        private int goal;
        private int una;
        private int nxt;
        private int high;
        private int cwnd = FIRST_CWND;
        private int mostCwnd = FIRST_CWND;
        private int ssthresh = FIRST_SSTHRESH;
        private int w = FIRST_WINDOW;
        private int dup;
        private boolean recovery;
        private int recover;
        private int timeouts;
        private int recoveries;
        private int again;
        private int probes;
        private final Timer timer = new Timer();
        private final Board board = new Board();
        private final Cubic cubic = new Cubic();

        Sender(int number, int kind) {
            this.number = number;
            this.kind = kind;
        }

        int addGoal(int segments) {
            if (goal > MOST_SEGMENTS - segments) {
                return NONE;
            }
            goal += segments;
            return goal;
        }

        void hear(Parcel ack, Road road, int now) {
            int told = ack.number;
            if (told < una) {
                return;
            }
            boolean duplicate = told == una && ack.window == w && nxt > una && !ack.special;
            int more = told - una;
            w = ack.window;
            if (more > 0) {
                goOn(more, now);
            }
            if (kind == SACK) {
                board.learn(ack.board, una, high);
            }
            if (more > 0 && recovery) {
                hearInRecovery(more, road, now);
            } else if (more > 0) {
                dup = 0;
                grow(now);
            } else if (duplicate) {
                countDuplicate();
                if (startsRecovery()) {
                    beginRecovery(road, now);
                }
            } else if (w > 0 && nxt == una) {
                timer.putOff();
            }
        }

        void lookAtTimer(Road road, int now) {
            if (timer.due != now) {
                return;
            }
            timer.putOff();
            timer.measured = NONE;
            if (nxt > una) {
                timeOut();
            } else if (w == 0 && nxt < goal) {
                probe(road, now);
            }
        }

        void sendWhatMay(Road road, int now) {
            for (int i = 0; i < MOST_SENDS; i++) {
                int segment = nextToSend();
                if (segment == NONE) {
                    break;
                }
                transmit(segment, road, now);
                if (segment == nxt) {
                    nxt++;
                }
            }
            if (w == 0 && nxt == una && nxt < goal) {
                timer.setIfOff(now);
            }
        }

        int tell(int what) {
            switch (what) {
                case 0:
                    return una;
                case 1:
                    return nxt;
                case 2:
                    return high;
                case 3:
                    return cwnd;
                case 4:
                    return ssthresh;
                case 5:
                    return timer.rto;
                case 6:
                    return timer.srtt;
                case 7:
                    return timer.variance;
                case 8:
                    return dup;
                case 9:
                    return recovery ? 1 : 0;
                default:
                    return tellMore(what);
            }
        }

        private int tellMore(int what) {
            switch (what) {
                case 10:
                    return timeouts;
                case 11:
                    return recoveries;
                case 12:
                    return again;
                case 13:
                    return w;
                case 14:
                    return timer.due;
                case 15:
                    return probes;
                case 16:
                    return cubic.wmax;
                case 17:
                    return cubic.k;
                case 18:
                    return out();
                default:
                    return NONE;
            }
        }

        private boolean goesByBoard() {
            return recovery && kind == SACK;
        }

        private int out() {
            return goesByBoard() ? board.pipe(una, nxt, high) : nxt - una;
        }

        private int nextToSend() {
            if (out() >= cwnd / FIXED) {
                return NONE;
            }
            int lost = goesByBoard() ? board.leastLost(una, high) : NONE;
            if (lost != NONE) {
                return lost;
            }
            return nxt < goal && nxt < una + w ? nxt : NONE;
        }

        private void transmit(int segment, Road road, int now) {
            boolean sentBefore = segment < high;
            if (sentBefore) {
                again++;
                board.sentAgain.put(segment);
            }
            high = Math.max(high, segment + 1);
            timer.noteSent(segment, sentBefore, now);
            road.launch(number, segment, false, now);
        }

        private void probe(Road road, int now) {
            probes++;
            high = Math.max(high, nxt + 1);
            road.launch(number, nxt, true, now);
            timer.doubleRto();
            timer.set(now);
        }

        private void goOn(int more, int now) {
            int told = una + more;
            timer.noteTold(told, now);
            if (goesByBoard()) {
                board.goOn(una, told);
            }
            una = told;
            nxt = Math.max(nxt, told);
            if (nxt > una) {
                timer.set(now);
            } else {
                timer.putOff();
            }
        }

        private void hearInRecovery(int more, Road road, int now) {
            if (kind == RENO || una >= recover) {
                setCwnd(ssthresh);
                recovery = false;
                dup = 0;
            } else if (kind != SACK) {
                transmit(una, road, now);
                setCwnd(Math.max(FIXED, cwnd - FIXED * more + FIXED));
            }
        }

        private void grow(int now) {
            if (cwnd < ssthresh) {
                setCwnd(cwnd + FIXED);
            } else if (kind == CUBIC) {
                setCwnd(cubic.grow(cwnd, timer.srtt, now));
            } else {
                setCwnd(cwnd + Math.max(1, FIXED * FIXED / Math.max(1, cwnd)));
            }
        }

        private void countDuplicate() {
            dup++;
            if (recovery && kind != SACK) {
                setCwnd(cwnd + FIXED);
            }
        }

        private boolean startsRecovery() {
            return !recovery && dup == 3 && (kind == RENO || una >= recover);
        }

        private void beginRecovery(Road road, int now) {
            ssthresh = lossThreshold();
            recovery = true;
            recoveries++;
            recover = high;
            board.beginRecovery(una);
            transmit(una, road, now);
            setCwnd(kind == SACK ? ssthresh : ssthresh + 3 * FIXED);
        }

        private void timeOut() {
            ssthresh = lossThreshold();
            setCwnd(FIXED);
            timer.doubleRto();
            timeouts++;
            recovery = false;
            dup = 0;
            recover = high;
            nxt = una;
            board.forget();
        }

        private int lossThreshold() {
            if (kind == CUBIC) {
                return cubic.noteLoss(cwnd);
            }
            return Math.max(LEAST_SSTHRESH, (nxt - una) * (FIXED / 2));
        }

        private void setCwnd(int wanted) {
            cwnd = Math.min(MOST_CWND, wanted);
            mostCwnd = Math.max(mostCwnd, cwnd);
        }
    }
}
