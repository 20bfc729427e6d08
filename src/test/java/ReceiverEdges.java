/**
 * The boundaries of II, and of the promises on windows, receivers and what is KEPT: for each
 * sentence of the document the numbers on both sides.
 */
public final class ReceiverEdges extends Due {
    public static void main(String[] args) {
        belowNext();
        belowNextAndWindow();
        windowOfNone();
        windowOfOne();
        windowOfTwoHundred();
        goesOnOverKept();
        keptAlready();
        keptByNumber();
        lateByHundred();
        lateAndTheNextInOneTick();
        notLateWhenOwed();
        notLateAtAHole();
        notLateBelowNext();
        notLateWhenNotTaken();
        neverLateUntold();
        windowZeroToTwoHundred();
        windowThatChanges();
        windowOncePerFlow();
        windowPaysWhatIsDue();
        windowBehindTheSegment();
        receiverWhats();
        end();
    }

    /** "Not below NEXT": the one that is wanted is taken, and comes again below it. */
    private static void belowNext() {
        part("II, below NEXT");
        CongestionBench x = one(RENO, false, 1);
        x.link(1, 1, 1000, 1000);
        through(x, 1000);
        receiverIs(x, 0, 0, 0, 4, 0);
        through(x, 1001);
        receiverIs(x, 0, 0, 1, 1, 0, 3, 1, 4, 1, 5, 0);
        through(x, 2000);
        receiverIs(x, 0, 4, 1);
        through(x, 2001);
        receiverIs(x, 0, 0, 1, 1, 0, 3, 2, 4, 2, 5, 1);
    }

    /** "And below NEXT + WINDOW": NEXT is 2, and 3, 4 and 5 come at 31, 32 and 33. */
    private static void belowNextAndWindow() {
        part("II, below NEXT + WINDOW");
        for (int window = 0; window <= 6; window++) {
            CongestionBench x = quick(RENO, 6, 2);
            through(x, 30);
            receiverIs(x, 0, 0, 2, 3, 2, 4, 2);
            x.window(0, window);
            through(x, 33);
            int taken = Math.max(0, Math.min(3, window - 1));
            receiverIs(x, 0, 0, 2, 1, taken, 3, 6, 4, 5, 5, 3 - taken);
            due("kept(0, 0)", x.kept(0, 0), taken > 0 ? 3 : NONE);
            due("kept(0, taken - 1)", x.kept(0, taken - 1), taken > 0 ? 2 + taken : NONE);
            due("kept(0, taken)", x.kept(0, taken), NONE);
        }
    }

    /** "The WINDOW (0 ..)": not even NEXT may come. */
    private static void windowOfNone() {
        part("II, a WINDOW of 0");
        for (int window = 0; window <= 1; window++) {
            CongestionBench x = one(RENO, false, 1);
            x.run(1);
            x.window(0, window);
            through(x, 30);
            receiverIs(x, 0, 0, window, 1, 0, 2, window, 3, 2, 4, 1, 5, 1 - window);
        }
    }

    /** With a WINDOW of 1 NEXT alone may come; with 2 one behind it. */
    private static void windowOfOne() {
        part("II, a WINDOW of 1");
        for (int window = 1; window <= 2; window++) {
            CongestionBench x = one(RENO, false, 2);
            x.lose(0);
            x.run(1);
            x.window(0, window);
            through(x, 30);
            receiverIs(x, 0, 0, 0, 1, window - 1, 4, 1, 5, 2 - window);
            x = one(RENO, false, 2);
            x.run(1);
            x.window(0, window);
            through(x, 40);
            receiverIs(x, 0, 0, 2, 1, 0, 4, 2, 5, 0);
        }
    }

    /** SEGMENTS 400 to 599 are sent from TICK T on, and 400 is lost; 599 comes at T + 200. */
    private static CongestionBench twoHundred() {
        CongestionBench x = wide(RENO, false);
        x.link(1, 100, 1, 1000);
        x.lose(400);
        x.send(0, 100);
        x.run(99);
        x.send(0, 101);
        x.run(1);
        senderIs(x, 0, 0, 400, 1, 600, 13, 200);
        countIs(x, 2, 600, 4, 0);
        return x;
    }

    /** "The WINDOW (.. to 200)": NEXT + 199 is taken, and is not if it is 199. */
    private static void windowOfTwoHundred() {
        part("II, a WINDOW of 200");
        for (int window = 198; window <= 200; window++) {
            CongestionBench x = twoHundred();
            x.lose(600);
            due("window(0, " + window + ")", x.window(0, window), 200);
            x.run(100);
            receiverIs(x, 0, 0, 400, 1, Math.min(198, window - 1), 4, 598, 5, window == 198 ? 1 : 0);
            x.run(1);
            receiverIs(x, 0, 0, 400, 1, window - 1, 4, 599, 5, 200 - window);
            due("the greatest", x.kept(0, window - 2), 400 + window - 1);
            due("no more", x.kept(0, window - 1), NONE);
        }
    }

    /** "NEXT goes up by one and on over KEPT ones": over none, over one, over 199. */
    private static void goesOnOverKept() {
        part("II, NEXT goes on");
        CongestionBench x = twoHundred();
        x.run(101);
        receiverIs(x, 0, 0, 400, 1, 199, 5, 0);
        due("kept(0, 0)", x.kept(0, 0), 401);
        due("kept(0, 110)", x.kept(0, 110), 511);
        due("kept(0, 111)", x.kept(0, 111), 512);
        due("kept(0, 198)", x.kept(0, 198), 599);
        due("kept(0, 199)", x.kept(0, 199), NONE);
        // The TIMEOUT at T + 200 has sent 400 again; it comes two TICKS on.
        x.run(1);
        receiverIs(x, 0, 0, 400, 1, 199);
        x.run(1);
        receiverIs(x, 0, 0, 600, 1, 0, 5, 0);
        due("kept(0, 0)", x.kept(0, 0), NONE);
        x = quick(RENO, 6, 2, 4);
        through(x, 33);
        receiverIs(x, 0, 0, 2, 1, 2);
        // The TIMEOUT at 221 sends 2 again: NEXT goes over 3 to 4, and 5 is KEPT still.
        through(x, 231);
        receiverIs(x, 0, 0, 2, 1, 2);
        through(x, 232);
        receiverIs(x, 0, 0, 4, 1, 1);
        due("kept(0, 0)", x.kept(0, 0), 5);
        due("kept(0, 1)", x.kept(0, 1), NONE);
    }

    /** "Or there already": 5 is KEPT, and is sent again behind a TIMEOUT with 4, which is lost. */
    private static void keptAlready() {
        part("9, there already");
        CongestionBench x = quick(RENO, 6, 2, 4, 7);
        through(x, 241);
        receiverIs(x, 0, 0, 4, 1, 1, 3, 5, 4, 5, 5, 0);
        senderIs(x, 0, 0, 4, 1, 6, 12, 3);
        through(x, 251);
        receiverIs(x, 0, 4, 5);
        through(x, 252);
        receiverIs(x, 0, 0, 4, 1, 1, 3, 6, 4, 6, 5, 1);
        due("kept(0, 0)", x.kept(0, 0), 5);
        due("kept(0, 1)", x.kept(0, 1), NONE);
    }

    /** "The k-th least SEGMENT that is KEPT; NONE": none is KEPT, one is, two are. */
    private static void keptByNumber() {
        part("10, k");
        CongestionBench x = quick(RENO, 6, 2);
        int[] from30 = {NONE, 3, 4, 5};
        for (int kept = 0; kept <= 3; kept++) {
            through(x, 30 + kept);
            receiverIs(x, 0, 1, kept);
            due("kept(0, -1)", x.kept(0, -1), NONE);
            for (int k = 0; k <= 4; k++) {
                due("kept(0, " + k + ") of " + kept, x.kept(0, k), k < kept ? from30[k + 1] : NONE);
            }
        }
        due("kept(0, LEAST)", x.kept(0, LEAST), NONE);
        due("kept(0, GREATEST)", x.kept(0, GREATEST), NONE);
        due("kept(-1, 0)", x.kept(-1, 0), NONE);
        due("kept(1, 0)", x.kept(1, 0), NONE);
    }

    /** "Then one is owed, due 100 ticks on." */
    private static void lateByHundred() {
        part("II, late");
        CongestionBench x = one(RENO, true, 1);
        through(x, 29);
        receiverIs(x, 0, 6, NONE);
        through(x, 30);
        receiverIs(x, 0, 0, 1, 3, 0, 6, 130);
        through(x, 129);
        receiverIs(x, 0, 3, 0, 6, 130);
        countIs(x, 7, 0);
        through(x, 130);
        receiverIs(x, 0, 3, 1, 6, NONE);
        countIs(x, 7, 1);
        through(x, 1000);
        receiverIs(x, 0, 3, 1, 6, NONE);
        senderIs(x, 0, 0, 1, 10, 0);
    }

    /** (b) is ahead of (c): 0 comes at 110, its answer is due at 210; 1 comes at 209, 210 or 211. */
    private static void lateAndTheNextInOneTick() {
        part("I, (b) and (c)");
        for (int forward = 9; forward <= 11; forward++) {
            CongestionBench x = one(RENO, true, 2);
            x.link(100, 1, 10, 10);
            through(x, 110);
            receiverIs(x, 0, 0, 1, 3, 0, 6, 210);
            x.link(100, 1, forward, 10);
            through(x, 209);
            receiverIs(x, 0, 0, forward == 9 ? 2 : 1, 3, forward == 9 ? 1 : 0, 6, forward == 9 ? NONE : 210);
            through(x, 210);
            receiverIs(x, 0, 0, forward == 11 ? 1 : 2, 3, 1, 6, NONE);
            through(x, 211);
            receiverIs(x, 0, 0, 2, 3, 1, 6, forward == 11 ? 311 : NONE);
            through(x, 400);
            receiverIs(x, 0, 3, forward == 11 ? 2 : 1, 6, NONE);
        }
    }

    /** "And no answer is owed": each second one is answered at once, and the third is late again. */
    private static void notLateWhenOwed() {
        part("II, owed");
        CongestionBench x = one(RENO, true, 4);
        x.link(10, 20, 20, 1);
        // The ACK of 1 is there at 41: 2 is on the link from 41 to 51, and 3 to 61.
        int[] comes = {30, 40, 71, 81};
        int[] owed = {130, NONE, 171, NONE};
        for (int i = 0; i < 4; i++) {
            through(x, comes[i] - 1);
            receiverIs(x, 0, 0, i);
            through(x, comes[i]);
            receiverIs(x, 0, 0, i + 1, 3, (i + 1) / 2, 6, owed[i]);
        }
    }

    /** "And it was NEXT, nothing is KEPT ahead of it or behind": 3 and 5 are lost. */
    private static void notLateAtAHole() {
        part("II, late at a hole");
        CongestionBench x = one(RENO, true, 7);
        x.link(1, 100, 10, 9);
        loseAll(x, 3, 5);
        through(x, 32);
        receiverIs(x, 0, 0, 3, 1, 0, 3, 1, 6, 132);
        // 4 is not NEXT: it is answered at once, and that pays what 2 is owed.
        through(x, 33);
        receiverIs(x, 0, 0, 3, 1, 1, 3, 2, 6, NONE);
        through(x, 53);
        receiverIs(x, 0, 0, 3, 1, 2, 3, 3, 6, NONE);
        // The TIMEOUT at 242 sends 3 again: it is NEXT, but 6 is KEPT behind it.
        through(x, 252);
        receiverIs(x, 0, 0, 3, 3, 3);
        through(x, 253);
        receiverIs(x, 0, 0, 5, 1, 1, 3, 4, 6, NONE);
        // 5 is NEXT, and nothing is KEPT behind it, but 6 was ahead of it.
        through(x, 272);
        receiverIs(x, 0, 0, 5, 1, 1, 3, 4);
        through(x, 273);
        receiverIs(x, 0, 0, 7, 1, 0, 3, 5, 6, NONE);
        through(x, 400);
        receiverIs(x, 0, 0, 7, 3, 6, 4, 8, 5, 1, 6, NONE);
        // Nothing is KEPT any more: 7 is answered late.
        x.send(0, 1);
        through(x, 412);
        receiverIs(x, 0, 0, 8, 3, 6, 6, 512);
    }

    /** "And it was NEXT": what is below it is answered at once, and pays what is owed. */
    private static void notLateBelowNext() {
        part("II, late below NEXT");
        // RTO is 1000: 0 is sent again at 1000 and comes 60 TICKS behind the first, at 1061.
        CongestionBench x = one(RENO, true, 1);
        x.link(1, 20, 1000, 20);
        through(x, 1000);
        x.link(1, 20, 60, 20);
        through(x, 1001);
        receiverIs(x, 0, 0, 1, 3, 0, 4, 1, 6, 1101);
        through(x, 1060);
        receiverIs(x, 0, 3, 0, 4, 1, 6, 1101);
        through(x, 1061);
        receiverIs(x, 0, 0, 1, 3, 1, 4, 2, 5, 1, 6, NONE);
        through(x, 1200);
        receiverIs(x, 0, 3, 1);
    }

    /** A WINDOW of 0: what is not taken leaves nothing owed. */
    private static void notLateWhenNotTaken() {
        part("II, late and not taken");
        for (int window = 0; window <= 1; window++) {
            CongestionBench x = one(RENO, true, 1);
            x.run(1);
            x.window(0, window);
            through(x, 29);
            receiverIs(x, 0, 3, 1, 6, NONE);
            through(x, 30);
            receiverIs(x, 0, 0, window, 3, 2 - window, 6, window == 0 ? NONE : 130);
        }
    }

    /** "If LATE answers are told". */
    private static void neverLateUntold() {
        part("II, not late");
        CongestionBench x = one(RENO, false, 2);
        through(x, 30);
        receiverIs(x, 0, 0, 1, 3, 1, 6, NONE);
        through(x, 40);
        receiverIs(x, 0, 0, 2, 3, 2, 6, NONE);
    }

    /** "NONE, and nothing happens, .. if it is not 0 to 200"; else "what it was". */
    private static void windowZeroToTwoHundred() {
        part("5, 0 to 200");
        CongestionBench x = one(RENO, false, 0);
        int[] asked = {-1, 201, 0, -1, 1, 201, 200, 201, 199, LEAST, GREATEST, 40};
        int was = 40;
        for (int segments : asked) {
            boolean good = segments >= 0 && segments <= 200;
            due("window(0, " + segments + ")", x.window(0, segments), good ? was : NONE);
            was = good ? segments : was;
            receiverIs(x, 0, 2, was);
        }
        due("window(1, 5)", x.window(1, 5), NONE);
        due("window(-1, 5)", x.window(-1, 5), NONE);
    }

    /** "A WINDOW that changes is told by an ACK at once (in the tick to come)": one that does not is not. */
    private static void windowThatChanges() {
        part("II, a WINDOW that changes");
        for (int window = 39; window <= 41; window++) {
            CongestionBench x = one(RENO, false, 0);
            x.window(0, window);
            receiverIs(x, 0, 3, 0);
            x.run(1);
            receiverIs(x, 0, 3, window == 40 ? 0 : 1);
            x.run(1);
            receiverIs(x, 0, 3, window == 40 ? 0 : 1);
            through(x, 19);
            senderIs(x, 0, 13, 40);
            through(x, 20);
            senderIs(x, 0, 13, window);
            x.window(0, window);
            x.run(1);
            receiverIs(x, 0, 3, window == 40 ? 0 : 1);
        }
    }

    /** "By flows, one a flow": two changes ahead of one TICK are told once, in two TICKS twice. */
    private static void windowOncePerFlow() {
        part("II, one a flow");
        CongestionBench x = one(RENO, false, 0);
        x.flow(RENO, false);
        x.window(1, 3);
        x.window(0, 1);
        x.window(0, 2);
        x.window(1, 4);
        x.run(1);
        countIs(x, 7, 2);
        receiverIs(x, 0, 3, 1);
        receiverIs(x, 1, 3, 1);
        x.window(0, 5);
        x.run(1);
        countIs(x, 7, 3);
        through(x, 20);
        senderIs(x, 0, 13, 2);
        senderIs(x, 1, 13, 4);
        through(x, 21);
        senderIs(x, 0, 13, 5);
        senderIs(x, 1, 13, 4);
    }

    /** "At (c), ahead of late ones", "any ACK that is sent pays it": one ACK, though both are due. */
    private static void windowPaysWhatIsDue() {
        part("II, a WINDOW pays");
        for (int at = 129; at <= 131; at++) {
            CongestionBench x = one(RENO, true, 1);
            through(x, at - 1);
            x.window(0, 50);
            x.run(1);
            receiverIs(x, 0, 3, at == 131 ? 2 : 1, 6, NONE);
            through(x, 140);
            receiverIs(x, 0, 3, at == 131 ? 2 : 1, 6, NONE);
            through(x, at + 20);
            senderIs(x, 0, 0, 1, 13, 50);
        }
    }

    /** (c) is behind (b): what comes in that TICK is answered with the new WINDOW, and it is told besides. */
    private static void windowBehindTheSegment() {
        part("II, a WINDOW and a SEGMENT");
        CongestionBench x = one(RENO, false, 1);
        through(x, 29);
        x.window(0, 50);
        x.run(1);
        receiverIs(x, 0, 0, 1, 3, 2);
        countIs(x, 7, 2);
        through(x, 50);
        senderIs(x, 0, 0, 1, 3, 3072, 8, 0, 13, 50);
    }

    /** "NONE likewise." */
    private static void receiverWhats() {
        part("9, whats");
        CongestionBench x = one(RENO, true, 1);
        receiverIs(x, 0, -2, NONE, -1, NONE, 0, 0, 1, 0, 2, 40, 3, 0, 4, 0, 5, 0, 6, NONE, 7, NONE, 8, NONE);
        through(x, 30);
        receiverIs(x, 0, -1, NONE, 0, 1, 1, 0, 2, 40, 3, 0, 4, 1, 5, 0, 6, 130, 7, NONE);
        for (int what = 0; what < 7; what++) {
            receiverIs(x, -1, what, NONE);
            receiverIs(x, 1, what, NONE);
            receiverIs(x, 4, what, NONE);
        }
    }
}
