import java.util.Arrays;

/**
 * The boundaries of I, and of the promises on the object, the LINK, FLOWS, losses and TICKS: for
 * each sentence of the document the numbers on both sides.
 */
public final class LinkEdges extends Due {
    public static void main(String[] args) {
        firstLink();
        firstRoom();
        service();
        room();
        roomBelowWhatIsQueued();
        forward();
        back();
        linkFallsFree();
        lostNeedsNoRoom();
        fourFlows();
        noFlowSendsNothing();
        sendOneToHundredThousand();
        sendUpToMillion();
        sendsNoMoreThanTold();
        millionAreSent();
        fiveHundredAndTwelveCalls();
        loseTheNextOne();
        loseSixtyFour();
        loseTwice();
        loseTheGreatest();
        runOneToTwentyThousand();
        runUpToHundredMillion();
        ackAheadOfTimer();
        countWhats();
        end();
    }

    /** "At first SERVICE 10, ROOM 20, FORWARD 20, BACK 20." */
    private static void firstLink() {
        part("I, at first");
        CongestionBench x = fourBusy();
        CongestionBench told = fourBusy();
        due("link(10, 20, 20, 20)", told.link(10, 20, 20, 20), true);
        x.run(2000);
        told.run(2000);
        same("at 2000", x, told);
        due("some are dropped", x.count(4) > 0, true);
        int[] first = answers(x);
        int[][] others = {{9, 20, 20, 20}, {11, 20, 20, 20}, {10, 19, 20, 20}, {10, 21, 20, 20}, {10, 20, 19, 20},
            {10, 20, 21, 20}, {10, 20, 20, 19}, {10, 20, 20, 21}};
        for (int[] n : others) {
            CongestionBench other = fourBusy();
            other.link(n[0], n[1], n[2], n[3]);
            other.run(2000);
            boolean alike = Arrays.equals(answers(other), first);
            due("as with link(" + n[0] + ", " + n[1] + ", " + n[2] + ", " + n[3] + ")", alike, false);
        }
    }

    private static CongestionBench fourBusy() {
        CongestionBench x = new CongestionBench();
        for (int kind = RENO; kind <= SACK; kind++) {
            x.flow(kind, false);
            x.send(kind, 300);
        }
        return x;
    }

    /** "Its QUEUE holds ROOM besides the one on the link": 20 at first. */
    private static void firstRoom() {
        part("I, ROOM at first");
        CongestionBench x = one(RENO, false, 400);
        int most = 0;
        for (int i = 0; i < 90 && x.count(4) == 0; i++) {
            x.run(10);
            most = Math.max(most, x.count(3));
        }
        due("dropped", x.count(4), 1);
        due("the longest QUEUE", most, 20);
        countIs(x, 3, 20, 8, 1);
    }

    /** "The LINK takes SERVICE ticks for each (1 to 100)." */
    private static void service() {
        part("I, SERVICE");
        for (int service : new int[] {1, 2, 99, 100}) {
            CongestionBench x = one(RENO, false, 2);
            due("link(" + service + ", 1, 1, 1)", x.link(service, 1, 1, 1), true);
            through(x, service - 1);
            countIs(x, 8, 1, 3, 1, 6, 0);
            through(x, service);
            countIs(x, 8, 1, 3, 0, 6, 1);
            through(x, 2 * service - 1);
            countIs(x, 8, 1);
            through(x, 2 * service);
            countIs(x, 8, 0);
        }
        CongestionBench x = new CongestionBench();
        due("link(0, 1, 1, 1)", x.link(0, 1, 1, 1), false);
        due("link(101, 1, 1, 1)", x.link(101, 1, 1, 1), false);
    }

    /** "ROOM (0 to 100)", and "DROPPED if the QUEUE is full". */
    private static void room() {
        part("I, ROOM");
        CongestionBench first = wide(RENO, false);
        senderIs(first, 0, 0, 400, 1, 400, 3, 262144, 13, 200);
        countIs(first, 2, 400, 4, 0);
        for (int room : new int[] {0, 1, 20, 99, 100}) {
            for (int above = -1; above <= 2; above++) {
                CongestionBench x = wide(RENO, false);
                due("link(1, " + room + ", 1, 1)", x.link(1, room, 1, 1), true);
                int burst = room + 1 + above;
                if (burst > 0) {
                    x.send(0, burst);
                }
                due("run(1)", x.run(1), burst);
                countIs(x, 3, Math.max(0, Math.min(room, burst - 1)), 4, Math.max(0, above), 8, burst > 0 ? 1 : 0);
            }
        }
        CongestionBench x = new CongestionBench();
        due("link(1, -1, 1, 1)", x.link(1, -1, 1, 1), false);
        due("link(1, 101, 1, 1)", x.link(1, 101, 1, 1), false);
    }

    /** A QUEUE that is longer than a new ROOM stays, and is full until it is below it. */
    private static void roomBelowWhatIsQueued() {
        part("I, a ROOM that shrinks");
        for (int left = 9; left <= 11; left++) {
            CongestionBench x = wide(RENO, false);
            x.flow(RENO, false);
            x.link(10, 100, 1, 1);
            int start = x.count(0);
            x.send(0, 13);
            x.run(1);
            x.link(10, 10, 1, 1);
            countIs(x, 3, 12, 4, 0);
            through(x, start + 10 * (12 - left));
            countIs(x, 3, left, 4, 0);
            x.send(1, 1);
            x.run(1);
            countIs(x, 3, left == 9 ? 10 : left, 4, left == 9 ? 0 : 1);
        }
    }

    /** "FORWARD ticks on its way (1 to 1000)." */
    private static void forward() {
        part("I, FORWARD");
        for (int forward : new int[] {1, 2, 999, 1000}) {
            CongestionBench x = one(RENO, false, 1);
            due("link(1, 1, " + forward + ", 1)", x.link(1, 1, forward, 1), true);
            through(x, forward);
            countIs(x, 6, 1, 9, 0);
            through(x, 1 + forward);
            // A TIMEOUT at 1000 has sent it again, and that is on its way at 1001.
            countIs(x, 6, forward == 1000 ? 1 : 0, 9, 1);
        }
        CongestionBench x = new CongestionBench();
        due("link(1, 1, 0, 1)", x.link(1, 1, 0, 1), false);
        due("link(1, 1, 1001, 1)", x.link(1, 1, 1001, 1), false);
    }

    /** "An ACK goes BACK in as many as told (1 to 1000)." */
    private static void back() {
        part("I, BACK");
        for (int back : new int[] {1, 2, 999, 1000}) {
            CongestionBench x = one(RENO, false, 0);
            due("link(1, 1, 1, " + back + ")", x.link(1, 1, 1, back), true);
            x.window(0, 39);
            through(x, back - 1);
            countIs(x, 7, 1);
            senderIs(x, 0, 13, 40);
            through(x, back);
            countIs(x, 7, 0);
            senderIs(x, 0, 13, 39);
        }
        CongestionBench x = new CongestionBench();
        due("link(1, 1, 1, 0)", x.link(1, 1, 1, 0), false);
        due("link(1, 1, 1, 1001)", x.link(1, 1, 1, 1001), false);
    }

    /** (a) is ahead of (f): in the TICK at which a SERVICE ends the link is free again. */
    private static void linkFallsFree() {
        part("I, the link falls free");
        for (int at = 9; at <= 11; at++) {
            CongestionBench x = one(RENO, false, 1);
            x.link(10, 0, 100, 100);
            through(x, at - 1);
            x.send(0, 1);
            due("run(1)", x.run(1), 1);
            countIs(x, 2, 2, 4, at == 9 ? 1 : 0, 8, 1, 6, at == 9 ? 0 : 1);
            through(x, 19);
            countIs(x, 8, at == 9 ? 0 : 1);
            through(x, 20);
            countIs(x, 8, at == 11 ? 1 : 0);
        }
    }

    /** "If that is told as LOST it is gone": ahead of the link and of a QUEUE that is full. */
    private static void lostNeedsNoRoom() {
        part("I, LOST and the QUEUE");
        CongestionBench x = one(RENO, false, 2);
        x.link(10, 0, 20, 20);
        x.lose(0);
        x.run(1);
        countIs(x, 2, 2, 3, 0, 4, 0, 5, 1, 8, 1);
        x = one(RENO, false, 2);
        x.link(10, 0, 20, 20);
        x.lose(1);
        x.run(1);
        countIs(x, 2, 2, 3, 0, 4, 0, 5, 1, 8, 1);
        x = one(RENO, false, 2);
        x.link(10, 0, 20, 20);
        x.lose(2);
        x.run(1);
        countIs(x, 2, 2, 3, 0, 4, 1, 5, 0, 8, 1);
    }

    /** "FLOWS, 4 at most"; "NONE if there are 4, or there is no such KIND." */
    private static void fourFlows() {
        part("3, four");
        CongestionBench x = new CongestionBench();
        for (int number = 0; number < 4; number++) {
            countIs(x, 1, number);
            senderIs(x, number, 0, NONE);
            due("flow(-1, false)", x.flow(-1, false), NONE);
            due("flow(4, false)", x.flow(4, false), NONE);
            due("flow(" + number + ", false)", x.flow(number, false), number);
            senderIs(x, number, 0, 0);
        }
        due("flow(0, false)", x.flow(0, false), NONE);
        due("flow(3, true)", x.flow(3, true), NONE);
        countIs(x, 1, 4);
        for (int number = 0; number < 4; number++) {
            due("send(" + number + ", 1)", x.send(number, 1), 1);
        }
        due("run(1)", x.run(1), 4);
    }

    /** "Nothing to send": a FLOW is still, and so is an object without one. */
    private static void noFlowSendsNothing() {
        part("1 and 3, still");
        CongestionBench x = new CongestionBench();
        due("run(20000)", x.run(20000), 0);
        countIs(x, 0, 20000, 1, 0, 2, 0, 7, 0);
        due("flow(1, true)", x.flow(1, true), 0);
        due("run(20000)", x.run(20000), 0);
        countIs(x, 0, 40000, 1, 1, 2, 0, 7, 0);
        senderIs(x, 0, 14, NONE, 10, 0, 15, 0);
    }

    /** "So many SEGMENTS more .. (1 to 100000)." */
    private static void sendOneToHundredThousand() {
        part("4, 1 to 100000");
        CongestionBench x = one(RENO, false, 0);
        due("send(0, 0)", x.send(0, 0), NONE);
        due("send(0, 1)", x.send(0, 1), 1);
        due("send(0, 100001)", x.send(0, 100001), NONE);
        due("send(0, 100000)", x.send(0, 100000), 100001);
        due("send(0, 99999)", x.send(0, 99999), 200000);
        due("send(0, -1)", x.send(0, -1), NONE);
        due("send(0, 2)", x.send(0, 2), 200002);
    }

    /** "NONE, and nothing happens, .. above 1000000": it is the sum that counts, of each FLOW. */
    private static void sendUpToMillion() {
        part("4, up to 1000000");
        for (int missing = 0; missing <= 2; missing++) {
            CongestionBench x = one(RENO, false, 100000 - missing);
            x.flow(RENO, false);
            for (int i = 0; i < 8; i++) {
                x.send(0, 100000);
            }
            due("the last 100000", x.send(0, 100000), 1000000 - missing);
            due("one too many", x.send(0, missing + 1), NONE);
            due("many too many", x.send(0, 100000), NONE);
            if (missing > 0) {
                due("just enough", x.send(0, missing), 1000000);
            }
            due("one more", x.send(0, 1), NONE);
            due("send(1, 100000)", x.send(1, 100000), 100000);
        }
        CongestionBench x = one(RENO, false, 100000);
        x.link(1, 20, 1, 1);
        x.run(20000);
        for (int i = 0; i < 9; i++) {
            x.send(0, 100000);
        }
        due("sent ones count still", x.send(0, 1), NONE);
    }

    /** "While NXT is below what is to be sent", "from the next TICK on". */
    private static void sendsNoMoreThanTold() {
        part("4, what is to be sent");
        CongestionBench x = one(RENO, false, 0);
        due("run(1)", x.run(1), 0);
        x.send(0, 1);
        senderIs(x, 0, 1, 0, 2, 0, 14, NONE);
        due("run(1)", x.run(1), 1);
        due("run(1)", x.run(1), 0);
        senderIs(x, 0, 1, 1, 2, 1, 18, 1);
        x.send(0, 1);
        x.send(0, 1);
        // CWND is 2048: one of the two has to wait.
        due("run(1)", x.run(1), 1);
        senderIs(x, 0, 1, 2, 18, 2);
        through(x, 1000);
        senderIs(x, 0, 0, 3, 1, 3, 2, 3);
        countIs(x, 2, 3);
    }

    /** All of the 1000000, one a TICK: the numbers go so far, and there is an end. */
    private static void millionAreSent() {
        part("4, a million are sent");
        CongestionBench x = one(SACK, true, 100000);
        x.link(1, 100, 1, 1);
        for (int i = 0; i < 9; i++) {
            x.send(0, 100000);
        }
        int sent = 0;
        for (int i = 0; i < 51; i++) {
            sent += x.run(20000);
        }
        due("sent", sent, 1000000);
        countIs(x, 0, 1020000, 2, 1000000, 4, 0, 9, 1000000, 6, 0, 7, 0);
        senderIs(x, 0, 0, 1000000, 1, 1000000, 2, 1000000, 12, 0, 14, NONE, 18, 0);
        receiverIs(x, 0, 0, 1000000, 1, 0, 4, 1000000, 5, 0, 6, NONE);
        due("send(0, 1)", x.send(0, 1), NONE);
        due("run(20000)", x.run(20000), 0);
    }

    /** "At most 512 calls": the last of them is answered as the first is. */
    private static void fiveHundredAndTwelveCalls() {
        part("512 calls");
        CongestionBench x = one(CUBIC, false, 100000);
        x.lose(77);
        int sent = 0;
        for (int call = 4; call <= 511; call++) {
            sent += x.run(1 + call % 7);
        }
        due("the last call", x.count(2), sent);
    }

    /** "False .. it was sent already": the next number is not, the one ahead of it is. */
    private static void loseTheNextOne() {
        part("6, sent already");
        CongestionBench x = one(RENO, false, 3);
        due("lose(-1)", x.lose(-1), false);
        x.run(1);
        countIs(x, 2, 2);
        due("lose(0)", x.lose(0), false);
        due("lose(1)", x.lose(1), false);
        due("lose(2)", x.lose(2), true);
        through(x, 50);
        countIs(x, 2, 3, 5, 1);
        due("lose(2)", x.lose(2), false);
        due("lose(3)", x.lose(3), true);
        x = one(RENO, false, 1);
        due("lose(0)", x.lose(0), true);
        x.run(1);
        countIs(x, 2, 1, 5, 1, 8, 0);
        due("lose(0)", x.lose(0), false);
    }

    /** "Or 64 are told that were not": those that were sent give their places back. */
    private static void loseSixtyFour() {
        part("6, 64 are told");
        CongestionBench x = one(RENO, false, 2);
        for (int n = 100; n < 163; n++) {
            x.lose(n);
        }
        due("lose(0), the 64th", x.lose(0), true);
        due("lose(1), a 65th", x.lose(1), false);
        due("lose(163), a 65th", x.lose(163), false);
        x.run(1);
        countIs(x, 2, 2, 5, 1, 8, 1);
        due("lose(1), sent already", x.lose(1), false);
        due("lose(163), the 64th again", x.lose(163), true);
        due("lose(2), a 65th", x.lose(2), false);
        due("lose(164), a 65th", x.lose(164), false);
        // What was refused is not lost: SEGMENT 0 is sent again as number 2, and is told.
        through(x, 1050);
        senderIs(x, 0, 0, 2, 12, 1);
        countIs(x, 2, 3, 5, 1);
    }

    /** A number that is told twice is one that is told: it takes one place, and is lost once. */
    private static void loseTwice() {
        part("6, told twice");
        CongestionBench x = one(RENO, false, 1);
        for (int n = 0; n < 63; n++) {
            x.lose(n);
        }
        due("lose(0) again", x.lose(0), true);
        due("lose(62) again", x.lose(62), true);
        due("lose(63), the 64th", x.lose(63), true);
        due("lose(64), a 65th", x.lose(64), false);
        x.run(1);
        countIs(x, 2, 1, 5, 1);
        due("lose(64), the 64th", x.lose(64), true);
        due("lose(65), a 65th", x.lose(65), false);
    }

    /** The document tells no greatest number. */
    private static void loseTheGreatest() {
        part("6, the greatest number");
        CongestionBench x = one(RENO, false, 2);
        due("lose(GREATEST)", x.lose(GREATEST), true);
        due("lose(GREATEST - 1)", x.lose(GREATEST - 1), true);
        x.run(100);
        countIs(x, 2, 2, 5, 0, 9, 2);
    }

    /** "So many TICKS (1 to 20000)." */
    private static void runOneToTwentyThousand() {
        part("7, 1 to 20000");
        CongestionBench x = one(RENO, false, 3);
        due("run(0)", x.run(0), NONE);
        countIs(x, 0, 0, 2, 0);
        due("run(1)", x.run(1), 2);
        countIs(x, 0, 1);
        due("run(20001)", x.run(20001), NONE);
        countIs(x, 0, 1, 2, 2);
        due("run(20000)", x.run(20000), 1);
        countIs(x, 0, 20001);
        due("run(19999)", x.run(19999), 0);
        countIs(x, 0, 40000);
        due("run(-1)", x.run(-1), NONE);
        countIs(x, 0, 40000);
    }

    /**
     * "Or above 100000000 in all." 512 calls come to 10240000 at most, so nothing is promised
     * here: the class holds the bound all the same.
     */
    private static void runUpToHundredMillion() {
        part("7, up to 100000000");
        CongestionBench x = one(RENO, false, 1);
        for (int i = 0; i < 4999; i++) {
            x.run(20000);
        }
        countIs(x, 0, 99980000);
        due("run(19999)", x.run(19999), 0);
        due("run(2)", x.run(2), NONE);
        due("run(20000)", x.run(20000), NONE);
        countIs(x, 0, 99999999);
        due("run(1)", x.run(1), 0);
        countIs(x, 0, 100000000);
        due("run(1)", x.run(1), NONE);
        countIs(x, 0, 100000000, 2, 1);
    }

    /** (d) is ahead of (e): an ACK that comes in the TICK of the TIMER comes in time. */
    private static void ackAheadOfTimer() {
        part("I, (d) and (e)");
        for (int back = 399; back <= 401; back++) {
            CongestionBench x = one(RENO, false, 1);
            x.link(100, 20, 500, back);
            through(x, 999);
            senderIs(x, 0, 0, back == 399 ? 1 : 0, 10, 0);
            through(x, 1000);
            senderIs(x, 0, 0, back == 401 ? 0 : 1, 10, back == 401 ? 1 : 0, 14, back == 401 ? 3000 : NONE);
            countIs(x, 2, back == 401 ? 2 : 1);
        }
    }

    /** "NONE for another what." */
    private static void countWhats() {
        part("12, whats");
        CongestionBench x = one(RENO, false, 4);
        x.link(10, 0, 20, 20);
        x.run(1);
        countIs(x, -2, NONE, -1, NONE, 0, 1, 1, 1, 2, 2, 3, 0, 4, 1, 5, 0, 6, 0, 7, 0, 8, 1, 9, 0, 10, NONE, 11, NONE);
    }
}
