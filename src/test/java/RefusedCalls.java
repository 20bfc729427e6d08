import java.util.ArrayList;
import java.util.List;

/**
 * "False, and nothing happens", "NONE, and nothing happens", "NONE without it, or for another
 * what", "0 without it": of two objects with the same calls behind them one gets a refused call
 * more, and both answer alike from then on, at once and after what comes later.
 */
public final class RefusedCalls extends Due {
    private interface Asked {
        int on(CongestionBench x);
    }

    private record Refused(String name, int want, Asked call) { }

    public static void main(String[] args) {
        Setting[] settings = {CongestionBench::new, () -> one(CUBIC, true, 0), RefusedCalls::busy,
            RefusedCalls::recovering, RefusedCalls::probing, RefusedCalls::allTold, RefusedCalls::nearlyMillion};
        String[] names = {"new", "one flow", "busy", "in recovery", "probing", "64 told", "nearly a million"};
        for (int i = 0; i < settings.length; i++) {
            for (Refused refused : refusedOf(settings[i].make())) {
                part(names[i] + ", behind " + refused.name);
                compare(settings[i], refused);
            }
        }
        part("4 flows");
        for (Refused refused : fifthFlows()) {
            compare(RefusedCalls::busy, refused);
        }
        part("64 told");
        for (Refused refused : losesOfTheSixtyFifth()) {
            compare(RefusedCalls::allTold, refused);
        }
        part("above a million");
        for (Refused refused : sendsAboveMillion()) {
            compare(RefusedCalls::nearlyMillion, refused);
        }
        end();
    }

    private static void compare(Setting setting, Refused refused) {
        CongestionBench x = setting.make();
        CongestionBench twin = setting.make();
        due(refused.name, refused.call.on(x), refused.want);
        same("at once", x, twin);
        int[] got = goOn(x);
        int[] want = goOn(twin);
        for (int i = 0; i < want.length; i++) {
            due("later call " + i, got[i], want[i]);
        }
        same("later", x, twin);
    }

    /** Calls of every kind, so that whatever a refused one had left behind comes out. */
    private static int[] goOn(CongestionBench x) {
        return new int[] {x.run(1), x.run(300), x.flow(NEWRENO, false), x.send(0, 3), x.send(0, 7), x.send(0, 1),
            x.lose(x.count(2) + 2) ? 1 : 0, x.window(0, 33), x.run(1), x.run(700), x.flow(RENO, true), x.flow(SACK, true),
            x.flow(SACK, true), x.send(3, 5), x.window(3, 5), x.run(1500)};
    }

    private static CongestionBench busy() {
        CongestionBench x = new CongestionBench();
        for (int kind = RENO; kind <= SACK; kind++) {
            x.flow(kind, kind % 2 == 1);
            x.send(kind, 500);
        }
        x.link(10, 3, 40, 30);
        loseAll(x, 9, 15, 30, 50, 51, 52, 70);
        x.run(333);
        return x;
    }

    private static CongestionBench recovering() {
        CongestionBench x = quick(SACK, 100, 6, 8, 30, 31);
        x.run(64);
        return x;
    }

    private static CongestionBench probing() {
        CongestionBench x = one(NEWRENO, true, 0);
        x.window(0, 0);
        x.run(21);
        x.send(0, 3);
        x.run(1010);
        return x;
    }

    private static CongestionBench allTold() {
        CongestionBench x = one(RENO, false, 40);
        x.run(1);
        for (int n = 0; n < 64; n++) {
            x.lose(2 + 3 * n);
        }
        return x;
    }

    private static CongestionBench nearlyMillion() {
        CongestionBench x = one(SACK, false, 99990);
        for (int i = 0; i < 9; i++) {
            x.send(0, 100000);
        }
        return x;
    }

    private static List<Refused> refusedOf(CongestionBench x) {
        int flows = x.count(1);
        int sent = x.count(2);
        List<Refused> all = new ArrayList<>();
        refuseLinks(all);
        refuseKinds(all);
        for (int flow : new int[] {LEAST, -1, flows, 4, GREATEST}) {
            refuseWithoutFlow(all, flow);
        }
        if (flows > 0) {
            refuseNumbers(all, x.receiver(0, 1));
        }
        refuse(all, "lose(sent - 1)", 0, b -> b.lose(sent - 1) ? 1 : 0);
        refuse(all, "lose(-1)", 0, b -> b.lose(-1) ? 1 : 0);
        refuse(all, "lose(LEAST)", 0, b -> b.lose(LEAST) ? 1 : 0);
        for (int ticks : new int[] {LEAST, -1, 0, 20001, GREATEST}) {
            refuse(all, "run(" + ticks + ")", NONE, b -> b.run(ticks));
        }
        for (int what : new int[] {LEAST, -1, 10, GREATEST}) {
            refuse(all, "count(" + what + ")", NONE, b -> b.count(what));
        }
        return all;
    }

    private static List<Refused> fifthFlows() {
        List<Refused> all = new ArrayList<>();
        for (int kind : new int[] {RENO, NEWRENO, CUBIC, SACK}) {
            refuse(all, "flow(" + kind + ", true)", NONE, b -> b.flow(kind, true));
            refuse(all, "flow(" + kind + ", false)", NONE, b -> b.flow(kind, false));
        }
        return all;
    }

    /** Numbers 2, 5, .. 191 are told: those between, those behind and the greatest are not. */
    private static List<Refused> losesOfTheSixtyFifth() {
        List<Refused> all = new ArrayList<>();
        for (int n : new int[] {3, 4, 6, 192, GREATEST}) {
            refuse(all, "lose(" + n + ")", 0, b -> b.lose(n) ? 1 : 0);
        }
        return all;
    }

    /** 999990 are to be sent: of what is sent later 3 and 7 are just taken, and 1 is not. */
    private static List<Refused> sendsAboveMillion() {
        List<Refused> all = new ArrayList<>();
        for (int segments : new int[] {11, 12, 99999, 100000}) {
            refuse(all, "send(0, " + segments + ")", NONE, b -> b.send(0, segments));
        }
        return all;
    }

    private static void refuse(List<Refused> all, String name, int want, Asked call) {
        all.add(new Refused(name, want, call));
    }

    /** The numbers ahead of and behind the wrong one are good and new: none of them may stay. */
    private static void refuseLinks(List<Refused> all) {
        int[][] wrong = {{LEAST, -1, 0, 101, GREATEST}, {LEAST, -1, 101, GREATEST}, {LEAST, -1, 0, 1001, GREATEST},
            {LEAST, -1, 0, 1001, GREATEST}};
        for (int place = 0; place < 4; place++) {
            for (int number : wrong[place]) {
                int[] n = {3, 1, 7, 9};
                n[place] = number;
                refuse(all, "link(" + n[0] + ", " + n[1] + ", " + n[2] + ", " + n[3] + ")", 0,
                    b -> b.link(n[0], n[1], n[2], n[3]) ? 1 : 0);
            }
        }
    }

    private static void refuseKinds(List<Refused> all) {
        for (int kind : new int[] {LEAST, -1, 4, GREATEST}) {
            refuse(all, "flow(" + kind + ", true)", NONE, b -> b.flow(kind, true));
            refuse(all, "flow(" + kind + ", false)", NONE, b -> b.flow(kind, false));
        }
    }

    private static void refuseWithoutFlow(List<Refused> all, int flow) {
        refuse(all, "send(" + flow + ", 5)", NONE, b -> b.send(flow, 5));
        refuse(all, "window(" + flow + ", 5)", NONE, b -> b.window(flow, 5));
        for (int what : new int[] {0, 2, 3, 5, 13, 18}) {
            refuse(all, "sender(" + flow + ", " + what + ")", NONE, b -> b.sender(flow, what));
        }
        for (int what = 0; what < 7; what++) {
            int w = what;
            refuse(all, "receiver(" + flow + ", " + w + ")", NONE, b -> b.receiver(flow, w));
        }
        refuse(all, "kept(" + flow + ", 0)", NONE, b -> b.kept(flow, 0));
        refuse(all, "kept(" + flow + ", 1)", NONE, b -> b.kept(flow, 1));
        refuse(all, "most(" + flow + ")", 0, b -> b.most(flow));
    }

    /** Wrong numbers with a flow that is there. */
    private static void refuseNumbers(List<Refused> all, int kept) {
        for (int segments : new int[] {LEAST, -1, 0, 100001, GREATEST}) {
            refuse(all, "send(0, " + segments + ")", NONE, b -> b.send(0, segments));
        }
        for (int segments : new int[] {LEAST, -1, 201, GREATEST}) {
            refuse(all, "window(0, " + segments + ")", NONE, b -> b.window(0, segments));
        }
        for (int what : new int[] {LEAST, -1, 19, GREATEST}) {
            refuse(all, "sender(0, " + what + ")", NONE, b -> b.sender(0, what));
        }
        for (int what : new int[] {LEAST, -1, 7, GREATEST}) {
            refuse(all, "receiver(0, " + what + ")", NONE, b -> b.receiver(0, what));
        }
        for (int k : new int[] {LEAST, -1, kept, kept + 1, GREATEST}) {
            refuse(all, "kept(0, " + k + ")", NONE, b -> b.kept(0, k));
        }
    }
}
