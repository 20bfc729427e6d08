/** What the tests of the project share: answers held against those that are due, and first steps. */
abstract class Due {
    static final int NONE = -1;
    static final int RENO = 0;
    static final int NEWRENO = 1;
    static final int CUBIC = 2;
    static final int SACK = 3;
    static final int LEAST = Integer.MIN_VALUE;
    static final int GREATEST = Integer.MAX_VALUE;

    private static int wrong = 0;
    private static int looked = 0;
    private static String part = "";

    static void part(String name) {
        part = name;
    }

    static void end() {
        System.out.println(looked + " answers, " + wrong + " not as due");
        if (wrong != 0) {
            System.exit(1);
        }
    }

    static void due(String call, long got, long want) {
        looked++;
        if (got != want) {
            wrong++;
            System.out.println(part + ": " + call + " answered " + got + ", due is " + want);
        }
    }

    static void due(String call, boolean got, boolean want) {
        due(call, got ? 1 : 0, want ? 1 : 0);
    }

    /** Pairs of a what and its answer. */
    static void senderIs(CongestionBench x, int flow, int... pairs) {
        for (int i = 0; i + 1 < pairs.length; i += 2) {
            due("at " + x.count(0) + " sender(" + flow + ", " + pairs[i] + ")", x.sender(flow, pairs[i]), pairs[i + 1]);
        }
    }

    static void receiverIs(CongestionBench x, int flow, int... pairs) {
        for (int i = 0; i + 1 < pairs.length; i += 2) {
            due("at " + x.count(0) + " receiver(" + flow + ", " + pairs[i] + ")", x.receiver(flow, pairs[i]), pairs[i + 1]);
        }
    }

    static void countIs(CongestionBench x, int... pairs) {
        for (int i = 0; i + 1 < pairs.length; i += 2) {
            due("at " + x.count(0) + " count(" + pairs[i] + ")", x.count(pairs[i]), pairs[i + 1]);
        }
    }

    /** Runs so far that the TICK t has been, and t + 1 is next. */
    static int through(CongestionBench x, int t) {
        int sent = 0;
        while (t + 1 - x.count(0) > 20000) {
            sent += x.run(20000);
        }
        return sent + x.run(t + 1 - x.count(0));
    }

    static CongestionBench one(int kind, boolean late, int segments) {
        CongestionBench x = new CongestionBench();
        x.flow(kind, late);
        if (segments > 0) {
            x.send(0, segments);
        }
        return x;
    }

    static void loseAll(CongestionBench x, int... numbers) {
        for (int n : numbers) {
            x.lose(n);
        }
    }

    /** A round trip of 20 ticks: 1 on the link, 10 behind it, 9 back. */
    static CongestionBench quick(int kind, int segments, int... lost) {
        CongestionBench x = one(kind, false, segments);
        x.link(1, 100, 10, 9);
        loseAll(x, lost);
        return x;
    }

    /**
     * A flow whose CWND is 262144 and whose W is 200, with nothing on its way: so it sends up to
     * 200 SEGMENTS in one TICK. 400 are told by then, and number 400 of all is next.
     */
    static CongestionBench wide(int kind, boolean late) {
        CongestionBench x = one(kind, late, 400);
        x.link(1, 100, 1, 1);
        x.run(5000);
        x.window(0, 200);
        x.run(10);
        return x;
    }

    /** The first run of calls that each twin has behind it. */
    interface Setting {
        CongestionBench make();
    }

    /** All answers of the face that tell and change nothing. */
    static int[] answers(CongestionBench x) {
        int flows = x.count(1);
        int[] all = new int[10 + flows * 30];
        int at = 0;
        for (int what = 0; what < 10; what++) {
            all[at++] = x.count(what);
        }
        for (int flow = 0; flow < flows; flow++) {
            for (int what = 0; what < 19; what++) {
                all[at++] = x.sender(flow, what);
            }
            for (int what = 0; what < 7; what++) {
                all[at++] = x.receiver(flow, what);
            }
            for (int k = 0; k < 3; k++) {
                all[at++] = x.kept(flow, k);
            }
            all[at++] = x.most(flow);
        }
        return all;
    }

    static void same(String when, CongestionBench x, CongestionBench twin) {
        int[] got = answers(x);
        int[] want = answers(twin);
        due(when + ": so many answers", got.length, want.length);
        for (int i = 0; i < got.length && i < want.length; i++) {
            due(when + ": " + nameOf(i), got[i], want[i]);
        }
    }

    private static String nameOf(int i) {
        int flow = (i - 10) / 30;
        int what = (i - 10) % 30;
        if (i < 10) {
            return "count(" + i + ")";
        }
        if (what < 19) {
            return "sender(" + flow + ", " + what + ")";
        }
        if (what < 26) {
            return "receiver(" + flow + ", " + (what - 19) + ")";
        }
        return what < 29 ? "kept(" + flow + ", " + (what - 26) + ")" : "most(" + flow + ")";
    }
}
