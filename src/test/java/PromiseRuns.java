/** For each promise of the document, runs of calls whose answers were worked out by hand. */
public final class PromiseRuns extends Due {
    public static void main(String[] args) {
        newObject();
        linkBounds();
        linkTimes();
        linkChangesOvertake();
        linkOrder();
        linkRoom();
        flowNumbers();
        sendBounds();
        sendFromTheNextTick();
        windowBounds();
        windowIsTold();
        windowShrinksBelowKept();
        windowAckIsNoDuplicate();
        loseBounds();
        loseIsByAllFlows();
        runBounds();
        runByManyIsRunByOne();
        slowStart();
        senderBounds();
        congestionAvoidance();
        cwndIsBounded();
        timeout();
        timeoutsDouble();
        measuredIsNotSentAgain();
        probe();
        probeAckIsNoDuplicate();
        probeIsTaken();
        renoRecovers();
        renoInflates();
        newRenoPartial();
        newRenoFallsTo1024();
        notBelowRecover();
        otherWindowIsNoDuplicate();
        sackRecovers();
        sackPipe();
        cubicLosesAndGrows();
        cubicFallsTwice();
        cubicHoldsD();
        receiverBounds();
        receiverLate();
        receiverLateBehindHole();
        keptOnes();
        mostOfCwnd();
        countBounds();
        countAddsUp();
        end();
    }

    private static void newObject() {
        part("1, new");
        CongestionBench x = new CongestionBench();
        countIs(x, 0, 0, 1, 0, 2, 0, 3, 0, 4, 0, 5, 0, 6, 0, 7, 0, 8, 0, 9, 0);
        due("sender(0, 0)", x.sender(0, 0), NONE);
        due("receiver(0, 0)", x.receiver(0, 0), NONE);
        due("most(0)", x.most(0), 0);
        due("NONE", CongestionBench.NONE, -1);
    }

    private static void linkBounds() {
        part("2, bounds");
        CongestionBench x = one(RENO, false, 1);
        int[][] bad = {{0, 5, 5, 5}, {101, 5, 5, 5}, {5, -1, 5, 5}, {5, 101, 5, 5}, {5, 5, 0, 5}, {5, 5, 1001, 5},
            {5, 5, 5, 0}, {5, 5, 5, 1001}, {LEAST, 5, 5, 5}, {5, GREATEST, 5, 5}, {5, 5, LEAST, 5}, {5, 5, 5, GREATEST}};
        for (int[] b : bad) {
            due("link(" + b[0] + ", " + b[1] + ", " + b[2] + ", " + b[3] + ")", x.link(b[0], b[1], b[2], b[3]), false);
        }
        through(x, 49);
        senderIs(x, 0, 0, 0);
        through(x, 50);
        senderIs(x, 0, 0, 1);
        due("link(1, 0, 1, 1)", x.link(1, 0, 1, 1), true);
        due("link(100, 100, 1000, 1000)", x.link(100, 100, 1000, 1000), true);
    }

    private static void linkTimes() {
        part("2, times");
        CongestionBench x = one(RENO, false, 2);
        x.link(100, 1, 1000, 1000);
        through(x, 0);
        countIs(x, 8, 1, 3, 1, 6, 0);
        x.link(7, 1, 30, 1);
        through(x, 99);
        countIs(x, 8, 1, 3, 1, 6, 0);
        through(x, 100);
        countIs(x, 8, 1, 3, 0, 6, 1);
        x.link(100, 1, 50, 3);
        through(x, 106);
        countIs(x, 8, 1, 6, 1);
        through(x, 107);
        countIs(x, 8, 0, 6, 2, 9, 0);
        through(x, 129);
        countIs(x, 9, 0);
        through(x, 130);
        countIs(x, 9, 1, 7, 1);
        x.link(1, 1, 1, 1000);
        through(x, 132);
        senderIs(x, 0, 0, 0);
        through(x, 133);
        senderIs(x, 0, 0, 1);
        through(x, 156);
        countIs(x, 9, 1);
        through(x, 157);
        countIs(x, 9, 2, 7, 1);
        through(x, 1156);
        senderIs(x, 0, 0, 1);
        through(x, 1157);
        senderIs(x, 0, 0, 2);
    }

    private static void linkChangesOvertake() {
        part("2, overtaking");
        CongestionBench x = one(RENO, false, 2);
        x.link(1, 1, 500, 1);
        through(x, 1);
        x.link(1, 1, 1, 1);
        through(x, 3);
        countIs(x, 6, 1, 9, 1);
        receiverIs(x, 0, 0, 0, 1, 1);
        due("kept(0, 0)", x.kept(0, 0), 1);
        through(x, 501);
        receiverIs(x, 0, 0, 2, 1, 0);
        part("2, acks overtake");
        x = one(RENO, false, 2);
        x.link(1, 1, 1, 900);
        through(x, 2);
        x.link(1, 1, 1, 1);
        x.window(0, 30);
        through(x, 4);
        senderIs(x, 0, 0, 2, 3, 3072, 13, 30);
        through(x, 902);
        senderIs(x, 0, 0, 2, 3, 3072, 8, 0, 13, 30);
        countIs(x, 7, 0);
    }

    /** Two SEGMENTS come in one TICK: the one that left the link first comes first. */
    private static void linkOrder() {
        part("2, order");
        int[][] forwards = {{30, 29}, {1000, 30, 29}, {1000, 10, 30, 29}};
        for (int[] ways : forwards) {
            CongestionBench x = new CongestionBench();
            x.flow(RENO, false);
            x.flow(RENO, false);
            if (ways.length > 2) {
                x.send(0, ways.length - 2);
            }
            x.send(1, 2);
            x.link(1, 100, 1, 1);
            through(x, 0);
            for (int way : ways) {
                x.link(1, 100, way, 1);
                x.run(1);
            }
            through(x, ways.length + 28);
            receiverIs(x, 1, 0, 0);
            through(x, ways.length + 29);
            receiverIs(x, 1, 0, 2);
            through(x, ways.length + 30);
            senderIs(x, 1, 0, 2, 3, 4096);
        }
    }

    private static void linkRoom() {
        part("2, room");
        CongestionBench x = one(RENO, false, 2);
        x.link(10, 0, 20, 20);
        due("run(1)", x.run(1), 2);
        countIs(x, 2, 2, 3, 0, 4, 1, 5, 0, 8, 1);
        x = one(RENO, false, 100);
        x.flow(RENO, false);
        x.send(1, 100);
        x.link(10, 2, 20, 20);
        due("run(1)", x.run(1), 4);
        countIs(x, 2, 4, 3, 2, 4, 1, 8, 1);
        x.link(10, 1, 20, 20);
        countIs(x, 3, 2);
        through(x, 20);
        countIs(x, 3, 0, 8, 1, 6, 2);
    }

    private static void flowNumbers() {
        part("3");
        CongestionBench x = new CongestionBench();
        due("flow(-1)", x.flow(-1, false), NONE);
        due("flow(4)", x.flow(4, true), NONE);
        due("flow(LEAST)", x.flow(LEAST, true), NONE);
        due("flow(GREATEST)", x.flow(GREATEST, true), NONE);
        countIs(x, 1, 0);
        due("flow(3)", x.flow(3, true), 0);
        due("flow(2)", x.flow(2, false), 1);
        due("flow(1)", x.flow(1, true), 2);
        due("flow(0)", x.flow(0, false), 3);
        due("flow(0)", x.flow(0, false), NONE);
        countIs(x, 1, 4);
        due("run(5)", x.run(5), 0);
        for (int f = 0; f < 4; f++) {
            senderIs(x, f, 0, 0, 1, 0, 2, 0, 3, 2048, 4, 1048576, 5, 1000, 6, 0, 7, 0, 8, 0, 9, 0, 10, 0, 11, 0,
                12, 0, 13, 40, 14, NONE, 15, 0, 16, 0, 17, 0, 18, 0);
            receiverIs(x, f, 0, 0, 1, 0, 2, 40, 3, 0, 4, 0, 5, 0, 6, NONE);
        }
    }

    private static void sendBounds() {
        part("4, bounds");
        CongestionBench x = new CongestionBench();
        due("send(0, 1)", x.send(0, 1), NONE);
        x.flow(RENO, false);
        x.flow(RENO, false);
        int[] bad = {0, -1, 100001, LEAST, GREATEST};
        for (int n : bad) {
            due("send(0, " + n + ")", x.send(0, n), NONE);
        }
        due("send(-1, 1)", x.send(-1, 1), NONE);
        due("send(2, 1)", x.send(2, 1), NONE);
        due("send(0, 1)", x.send(0, 1), 1);
        for (int i = 1; i <= 9; i++) {
            due("send(0, 100000)", x.send(0, 100000), i * 100000 + 1);
        }
        due("send(0, 100000)", x.send(0, 100000), NONE);
        due("send(0, 99999)", x.send(0, 99999), 1000000);
        due("send(0, 1)", x.send(0, 1), NONE);
        due("send(1, 7)", x.send(1, 7), 7);
        due("send(1, 8)", x.send(1, 8), 15);
    }

    private static void sendFromTheNextTick() {
        part("4, sending");
        CongestionBench x = one(RENO, false, 1);
        countIs(x, 2, 0);
        due("run(1)", x.run(1), 1);
        senderIs(x, 0, 0, 0, 1, 1, 2, 1, 14, 1000, 18, 1);
        x.send(0, 5);
        senderIs(x, 0, 1, 1);
        due("run(1)", x.run(1), 1);
        senderIs(x, 0, 1, 2, 18, 2);
        part("4, the window holds");
        x = one(RENO, false, 100);
        x.window(0, 1);
        through(x, 20);
        senderIs(x, 0, 13, 1, 1, 2);
        through(x, 50);
        senderIs(x, 0, 0, 1, 1, 2, 3, 3072);
        through(x, 1000);
        due("OUT", x.sender(0, 18), 1);
    }

    private static void windowBounds() {
        part("5, bounds");
        CongestionBench x = new CongestionBench();
        due("window(0, 5)", x.window(0, 5), NONE);
        x.flow(RENO, false);
        int[] bad = {-1, 201, LEAST, GREATEST};
        for (int n : bad) {
            due("window(0, " + n + ")", x.window(0, n), NONE);
        }
        due("window(1, 5)", x.window(1, 5), NONE);
        due("window(-1, 5)", x.window(-1, 5), NONE);
        receiverIs(x, 0, 2, 40);
        due("window(0, 40)", x.window(0, 40), 40);
        due("run(3)", x.run(3), 0);
        receiverIs(x, 0, 3, 0);
        due("window(0, 0)", x.window(0, 0), 40);
        due("window(0, 200)", x.window(0, 200), 0);
        receiverIs(x, 0, 2, 200, 3, 0);
        x.run(3);
        receiverIs(x, 0, 2, 200, 3, 1);
    }

    private static void windowIsTold() {
        part("5, told");
        CongestionBench x = new CongestionBench();
        x.flow(RENO, false);
        x.flow(SACK, true);
        x.window(1, 7);
        x.window(0, 9);
        through(x, 0);
        countIs(x, 7, 2);
        through(x, 19);
        senderIs(x, 0, 13, 40);
        through(x, 20);
        senderIs(x, 0, 13, 9, 8, 0);
        senderIs(x, 1, 13, 7, 8, 0);
        countIs(x, 7, 0);
        part("5, pays the late answer");
        x = one(RENO, true, 1);
        through(x, 30);
        receiverIs(x, 0, 6, 130, 3, 0);
        x.window(0, 39);
        through(x, 31);
        receiverIs(x, 0, 6, NONE, 3, 1);
        through(x, 200);
        receiverIs(x, 0, 3, 1);
        senderIs(x, 0, 0, 1, 13, 39);
    }

    private static void windowShrinksBelowKept() {
        part("5, kept stay");
        CongestionBench x = quick(RENO, 100, 2);
        through(x, 33);
        receiverIs(x, 0, 0, 2, 1, 3);
        x.window(0, 1);
        receiverIs(x, 0, 1, 3, 2, 1);
        through(x, 53);
        receiverIs(x, 0, 0, 6, 1, 0);
    }

    private static void windowAckIsNoDuplicate() {
        part("5, no duplicate");
        // To 41 and back: the last of the three ACKS tells the WINDOW that W is, and is none still.
        CongestionBench x = quick(RENO, 2);
        x.link(100, 100, 1000, 1);
        through(x, 0);
        x.window(0, 41);
        through(x, 1);
        x.window(0, 40);
        x.window(0, 41);
        through(x, 2);
        senderIs(x, 0, 13, 41, 8, 0, 18, 2);
        through(x, 3);
        senderIs(x, 0, 13, 41, 8, 0);
        receiverIs(x, 0, 3, 2);
    }

    private static void loseBounds() {
        part("6, bounds");
        CongestionBench x = one(RENO, false, 3);
        due("lose(-1)", x.lose(-1), false);
        due("lose(LEAST)", x.lose(LEAST), false);
        for (int n = 1; n <= 63; n++) {
            due("lose(" + n + ")", x.lose(n), true);
        }
        due("lose(63)", x.lose(63), true);
        due("lose(GREATEST)", x.lose(GREATEST), true);
        due("lose(64)", x.lose(64), false);
        due("lose(0)", x.lose(0), false);
        x.run(1);
        countIs(x, 2, 2, 5, 1, 8, 1, 3, 0);
        due("lose(0)", x.lose(0), false);
        due("lose(1)", x.lose(1), false);
        due("lose(64)", x.lose(64), true);
        due("lose(65)", x.lose(65), false);
    }

    private static void loseIsByAllFlows() {
        part("6, of all flows");
        CongestionBench x = one(RENO, false, 2);
        x.flow(RENO, false);
        x.send(1, 2);
        x.lose(2);
        x.run(1);
        through(x, 70);
        receiverIs(x, 0, 0, 2, 4, 2);
        receiverIs(x, 1, 0, 0, 4, 1, 1, 1);
        countIs(x, 5, 1);
    }

    private static void runBounds() {
        part("7, bounds");
        CongestionBench x = one(RENO, false, 3);
        int[] bad = {0, -1, 20001, LEAST, GREATEST};
        for (int n : bad) {
            due("run(" + n + ")", x.run(n), NONE);
        }
        countIs(x, 0, 0, 2, 0);
        due("run(20000)", x.run(20000), 3);
        countIs(x, 0, 20000, 2, 3);
        due("run(1)", x.run(1), 0);
        countIs(x, 0, 20001);
    }

    private static void runByManyIsRunByOne() {
        part("7, in parts");
        for (int kind = RENO; kind <= SACK; kind++) {
            CongestionBench whole = quick(kind, 3000, 3, 11, 12, 40, 41, 77);
            CongestionBench parts = quick(kind, 3000, 3, 11, 12, 40, 41, 77);
            int sent = whole.run(450);
            for (int i = 0; i < 450; i++) {
                sent -= parts.run(1);
            }
            due("sent in parts, less", sent, 0);
            for (int what = 0; what < 19; what++) {
                due("sender(0, " + what + ") of " + kind, parts.sender(0, what), whole.sender(0, what));
            }
        }
    }

    private static void slowStart() {
        part("8, slow start");
        CongestionBench x = one(NEWRENO, false, 10);
        due("run(1)", x.run(1), 2);
        senderIs(x, 0, 0, 0, 1, 2, 2, 2, 3, 2048, 14, 1000, 18, 2);
        due("to 49", through(x, 49), 0);
        due("to 50", through(x, 50), 2);
        // R is 50: SRTT 400, VAR 100, and 150 is held to 200.
        senderIs(x, 0, 0, 1, 1, 4, 3, 3072, 5, 200, 6, 400, 7, 100, 14, 250, 18, 3);
        due("to 60", through(x, 60), 2);
        senderIs(x, 0, 0, 2, 1, 6, 3, 4096, 6, 400, 14, 260);
        // SEGMENT 2 was sent at 50: on the link from 50 to 60, and told at 100.
        through(x, 100);
        senderIs(x, 0, 0, 3, 3, 5120, 6, 400, 7, 75);
        through(x, 400);
        senderIs(x, 0, 0, 10, 1, 10, 2, 10, 12, 0, 14, NONE, 18, 0, 10, 0);
        part("8, RTO");
        x = one(RENO, false, 2);
        x.link(100, 20, 1000, 400);
        // Both are out at 0; the TIMER is due at 1000, so nothing is MEASURED.
        through(x, 1000);
        senderIs(x, 0, 10, 1, 5, 2000, 6, 0);
        x = one(RENO, false, 1);
        x.link(100, 20, 400, 400);
        through(x, 900);
        // R is 900: 900 + 1800.
        senderIs(x, 0, 5, 2700, 6, 7200, 7, 1800, 14, NONE);
        x.link(1, 20, 1, 1);
        x.send(0, 1);
        through(x, 904);
        // R is 3: VAR 1800 - 450 + 897, SRTT 7200 - 900 + 3, RTO 787 + 2247.
        senderIs(x, 0, 7, 2247, 6, 6303, 5, 3034);
    }

    private static void senderBounds() {
        part("8, bounds");
        CongestionBench x = one(RENO, false, 1);
        due("sender(0, -1)", x.sender(0, -1), NONE);
        due("sender(0, 19)", x.sender(0, 19), NONE);
        due("sender(0, GREATEST)", x.sender(0, GREATEST), NONE);
        due("sender(0, LEAST)", x.sender(0, LEAST), NONE);
        due("sender(1, 3)", x.sender(1, 3), NONE);
        due("sender(-1, 3)", x.sender(-1, 3), NONE);
        due("sender(GREATEST, 3)", x.sender(GREATEST, 3), NONE);
    }

    private static void congestionAvoidance() {
        part("8, growth");
        CongestionBench x = one(RENO, false, 1);
        x.lose(0);
        through(x, 1050);
        // A TIMEOUT put SSTHRESH to 2048 and CWND to 1024; the ACK at 1050 makes it 2048.
        senderIs(x, 0, 3, 2048, 4, 2048);
        x.send(0, 1);
        through(x, 1101);
        senderIs(x, 0, 0, 2, 3, 2560);
        x.send(0, 1);
        through(x, 1152);
        senderIs(x, 0, 0, 3, 3, 2969);
    }

    private static void cwndIsBounded() {
        part("8, CWND's bound");
        CongestionBench x = quick(RENO, 100000);
        x.run(20000);
        due("CWND", x.sender(0, 3), 262144);
        due("most", x.most(0), 262144);
        // 40 are OUT, so a loss finds 40 of them, not 256.
        due("OUT", x.sender(0, 18) <= 40, true);
    }

    private static void timeout() {
        part("8, timeout");
        CongestionBench x = quick(CUBIC, 8, 2, 3, 4, 5, 6, 7);
        through(x, 21);
        senderIs(x, 0, 0, 2, 1, 6, 3, 4096, 14, 221, 16, 0);
        through(x, 220);
        senderIs(x, 0, 10, 0);
        due("at 221", through(x, 221), 1);
        senderIs(x, 0, 0, 2, 1, 3, 2, 6, 3, 1024, 4, 2867, 5, 400, 10, 1, 12, 1, 14, 621, 16, 4096, 18, 1);
        // Number 6 of all is lost too.
        through(x, 621);
        senderIs(x, 0, 3, 1024, 4, 2048, 5, 800, 10, 2, 12, 2, 14, 1421, 16, 870);
        part("8, timeout of others");
        x = quick(NEWRENO, 100, 6, 7, 8, 9, 10, 11, 12, 13);
        through(x, 43);
        senderIs(x, 0, 0, 6, 1, 14, 3, 8192, 14, 243);
        through(x, 243);
        senderIs(x, 0, 1, 7, 2, 14, 3, 1024, 4, 4096, 10, 1);
        through(x, 263);
        senderIs(x, 0, 0, 7, 1, 9, 2, 14, 3, 2048, 12, 3);
    }

    private static void timeoutsDouble() {
        part("8, RTO doubles");
        CongestionBench x = one(RENO, false, 1);
        for (int n = 0; n < 10; n++) {
            x.lose(n);
        }
        int at = 0;
        int rto = 1000;
        for (int n = 1; n <= 8; n++) {
            at += rto;
            rto = Math.min(60000, rto * 2);
            while (x.count(0) + 20000 < at) {
                x.run(20000);
            }
            through(x, at - 1);
            due("TIMEOUTS", x.sender(0, 10), n - 1);
            through(x, at);
            senderIs(x, 0, 10, n, 5, rto, 14, at + rto, 12, n);
        }
    }

    private static void measuredIsNotSentAgain() {
        part("8, measured");
        CongestionBench x = one(RENO, false, 1);
        x.lose(0);
        through(x, 1050);
        senderIs(x, 0, 0, 1, 6, 0, 7, 0, 5, 2000, 14, NONE);
        x.send(0, 1);
        through(x, 1101);
        senderIs(x, 0, 0, 2, 6, 400, 7, 100, 5, 200);
    }

    /** W is 0 at TICK 20, and three are to be sent from 21 on. */
    private static CongestionBench shut(int kind, boolean late) {
        CongestionBench x = one(kind, late, 0);
        x.window(0, 0);
        through(x, 20);
        x.send(0, 3);
        return x;
    }

    private static void probe() {
        part("8, probe");
        CongestionBench x = shut(RENO, true);
        senderIs(x, 0, 13, 0, 14, NONE);
        due("run(1)", x.run(1), 0);
        senderIs(x, 0, 14, 1021, 15, 0, 1, 0);
        through(x, 1020);
        senderIs(x, 0, 15, 0);
        due("at 1021", through(x, 1021), 1);
        senderIs(x, 0, 0, 0, 1, 0, 2, 1, 5, 2000, 10, 0, 12, 0, 14, 3021, 15, 1, 18, 0);
        through(x, 1071);
        // Not taken, so answered at once though answers are late.
        receiverIs(x, 0, 0, 0, 3, 2, 4, 1, 5, 1, 6, NONE);
        senderIs(x, 0, 8, 0, 13, 0, 14, 3021);
        due("at 3021", through(x, 3021), 1);
        senderIs(x, 0, 5, 4000, 14, 7021, 15, 2, 2, 1);
        x.window(0, 5);
        through(x, 3041);
        senderIs(x, 0, 13, 0, 14, 7021);
        due("at 3042", through(x, 3042), 2);
        // SEGMENT 0 is sent AGAIN then, and 1 is MEASURED.
        senderIs(x, 0, 13, 5, 1, 2, 2, 2, 12, 1, 14, 7042, 18, 2, 10, 0);
        through(x, 3300);
        senderIs(x, 0, 0, 3, 12, 1, 15, 2);
    }

    private static void probeAckIsNoDuplicate() {
        part("8, a probe's ACK");
        // The PROBE comes to a shut WINDOW at 1051; its ACK takes long, and W opens and shuts ahead of it.
        CongestionBench x = shut(RENO, false);
        through(x, 1021);
        x.link(10, 20, 20, 300);
        through(x, 1051);
        x.link(10, 20, 1000, 1);
        x.window(0, 2);
        through(x, 1053);
        senderIs(x, 0, 13, 2, 1, 2, 0, 0, 8, 0);
        x.window(0, 0);
        through(x, 1055);
        senderIs(x, 0, 13, 0, 1, 2, 8, 0);
        through(x, 1350);
        senderIs(x, 0, 8, 0);
        through(x, 1351);
        senderIs(x, 0, 8, 0, 13, 0, 1, 2);
    }

    private static void probeIsTaken() {
        part("8, a probe that is taken");
        CongestionBench x = shut(RENO, false);
        through(x, 1050);
        x.link(10, 20, 20, 1);
        x.window(0, 1);
        through(x, 1051);
        receiverIs(x, 0, 0, 1, 4, 1, 5, 0, 3, 3);
        through(x, 1052);
        // The ACK tells 1 and a WINDOW of 1: SEGMENT 0 counts as told, 1 goes out.
        senderIs(x, 0, 0, 1, 1, 2, 3, 3072, 12, 0, 6, 0, 14, 3052, 13, 1);
    }

    private static void renoRecovers() {
        part("8, RENO");
        CongestionBench x = quick(RENO, 100, 2);
        through(x, 41);
        senderIs(x, 0, 0, 2, 1, 6, 3, 4096, 8, 2, 9, 0, 14, 221);
        due("at 42", through(x, 42), 2);
        senderIs(x, 0, 0, 2, 1, 7, 2, 7, 3, 5120, 4, 2048, 8, 3, 9, 1, 11, 1, 12, 1, 14, 221, 18, 5);
        through(x, 61);
        senderIs(x, 0, 9, 1, 8, 3);
        due("at 62", through(x, 62), 1);
        senderIs(x, 0, 0, 6, 1, 8, 3, 2048, 8, 0, 9, 0, 14, 262, 6, 160);
        through(x, 63);
        // SEGMENT 6 was MEASURED from 42 on: R is 21. CWND grows by 512.
        senderIs(x, 0, 0, 7, 6, 161, 7, 31, 5, 200, 3, 2560);
    }

    private static void renoInflates() {
        part("8, RENO's end");
        CongestionBench x = quick(RENO, 100, 6, 8);
        through(x, 62);
        senderIs(x, 0, 3, 7168, 4, 4096, 9, 1, 1, 14, 12, 1);
        due("at 63", through(x, 63), 0);
        senderIs(x, 0, 3, 8192, 8, 4);
        due("at 64", through(x, 64), 1);
        due("at 65", through(x, 65), 1);
        senderIs(x, 0, 3, 10240, 8, 6, 1, 16);
        through(x, 82);
        // RENO ends with the first that tells more, though 8 is still missing.
        senderIs(x, 0, 0, 8, 3, 4096, 8, 0, 9, 0, 12, 1, 11, 1);
    }

    private static void newRenoPartial() {
        part("8, NEWRENO");
        CongestionBench x = quick(NEWRENO, 100, 6, 8);
        through(x, 65);
        senderIs(x, 0, 3, 10240, 8, 6, 1, 16, 9, 1);
        due("at 82", through(x, 82), 2);
        senderIs(x, 0, 0, 8, 1, 17, 3, 9216, 8, 6, 9, 1, 12, 2, 14, 282);
        through(x, 101);
        senderIs(x, 0, 9, 1);
        through(x, 102);
        senderIs(x, 0, 9, 0, 3, 4096, 8, 0, 11, 1, 12, 2);
    }

    private static void newRenoFallsTo1024() {
        part("8, NEWRENO's least CWND");
        // Three ACKS are quick, the others slow, until 14 is sent again: 15 are told at once.
        CongestionBench x = quick(NEWRENO, 30, 14, 29);
        through(x, 73);
        x.link(1, 100, 10, 1000);
        through(x, 82);
        senderIs(x, 0, 0, 14, 1, 30, 9, 1, 3, 11264, 4, 8192);
        through(x, 92);
        x.link(1, 100, 10, 1);
        through(x, 94);
        senderIs(x, 0, 0, 29, 1, 30, 9, 1, 3, 1024, 12, 2);
        through(x, 106);
        senderIs(x, 0, 0, 30, 9, 0, 3, 8192);
    }

    private static void notBelowRecover() {
        part("8, RECOVER");
        // 6, 7 and 10 are lost, then 6 as it is sent again, 14, and 10 as it is sent behind the TIMEOUT.
        for (int kind = RENO; kind <= NEWRENO; kind++) {
            CongestionBench x = quick(kind, 100, 6, 7, 10, 14, 15, 19);
            through(x, 63);
            senderIs(x, 0, 9, 1, 11, 1);
            through(x, 243);
            senderIs(x, 0, 9, 0, 8, 0, 10, 1, 2, 15, 4, 4608);
            through(x, 303);
            senderIs(x, 0, 0, 10, 8, 2, 9, 0);
            // UNA 10 is below RECOVER 15, which is nothing to RENO.
            through(x, 304);
            senderIs(x, 0, 8, 3, 9, kind == RENO ? 1 : 0, 11, kind == RENO ? 2 : 1);
        }
    }

    private static void otherWindowIsNoDuplicate() {
        part("8, W as it was");
        CongestionBench x = quick(RENO, 100, 2);
        through(x, 30);
        x.window(0, 39);
        through(x, 40);
        senderIs(x, 0, 8, 0, 13, 39);
        through(x, 42);
        senderIs(x, 0, 8, 2, 9, 0);
    }

    private static void sackRecovers() {
        part("8, SACK");
        CongestionBench x = quick(SACK, 100, 2);
        due("to 42", through(x, 42), 8);
        senderIs(x, 0, 0, 2, 1, 7, 3, 2048, 4, 2048, 8, 3, 9, 1, 12, 1, 18, 2);
        through(x, 62);
        senderIs(x, 0, 0, 6, 9, 0, 8, 0, 3, 2048, 18, 2);
    }

    private static void sackPipe() {
        part("8, PIPE");
        CongestionBench x = quick(SACK, 100, 6, 8);
        through(x, 61);
        senderIs(x, 0, 18, 8, 8, 2);
        // BOARD 7, 9, 10: 6 is LOST and sent again; 8, 11, 12, 13 are in the PIPE.
        due("at 62", through(x, 62), 1);
        senderIs(x, 0, 18, 5, 3, 4096, 12, 1, 9, 1);
        // BOARD 7, 9, 10, 11: 8 is LOST too; with 12, 13 and 6 there is room for it.
        due("at 63", through(x, 63), 1);
        senderIs(x, 0, 18, 4, 12, 2, 1, 14, 3, 4096);
        due("at 64", through(x, 64), 1);
        senderIs(x, 0, 18, 4, 12, 2, 1, 15);
        due("at 65", through(x, 65), 1);
        senderIs(x, 0, 18, 4, 12, 2, 1, 16, 8, 6);
        // 6 is told with 7: 14, 15 and 8 are in the PIPE.
        due("at 82", through(x, 82), 1);
        senderIs(x, 0, 0, 8, 9, 1, 18, 4, 1, 17, 3, 4096, 8, 6);
        through(x, 83);
        senderIs(x, 0, 0, 14, 9, 0, 8, 0, 12, 2, 3, 4096, 18, 4);
    }

    private static void cubicLosesAndGrows() {
        part("8, CUBIC");
        CongestionBench x = quick(CUBIC, 100, 6);
        through(x, 61);
        senderIs(x, 0, 3, 8192, 16, 0, 17, 0);
        through(x, 62);
        senderIs(x, 0, 3, 8806, 4, 5734, 9, 1, 16, 8192, 17, 0);
        through(x, 82);
        senderIs(x, 0, 3, 5734, 9, 0, 6, 160, 17, 0);
        while (x.sender(0, 3) == 5734 && x.count(0) < 200) {
            x.run(1);
        }
        // At 83 or on: K is 1817; d -1797, TARGET 5816, so CWND 5748, but EST is 5830.
        due("SRTT / 8", x.sender(0, 6) / 8, 20);
        senderIs(x, 0, 3, 5830, 17, 1817, 16, 8192);
    }

    private static void cubicFallsTwice() {
        part("8, CUBIC's WMAX");
        CongestionBench x = quick(CUBIC, 1, 0, 1);
        through(x, 1000);
        senderIs(x, 0, 16, 2048, 4, 2048, 3, 1024);
        // CWND 1024 is below WMAX then: 870.
        through(x, 3000);
        senderIs(x, 0, 16, 870, 10, 2);
        part("8, others' WMAX");
        x = quick(SACK, 100, 6);
        x.run(2000);
        senderIs(x, 0, 16, 0, 17, 0, 11, 1);
    }

    private static void cubicHoldsD() {
        part("8, CUBIC's d");
        CongestionBench x = quick(CUBIC, 100, 6);
        for (int i = 0; i < 8; i++) {
            x.run(20000);
        }
        senderIs(x, 0, 0, 100, 11, 1);
        int cwnd = x.sender(0, 3);
        x.send(0, 1);
        x.run(30);
        // TARGET is CWND * 3 / 2 by far; a d of 160000 would go beyond a long's sum.
        due("CWND", x.sender(0, 3), cwnd + (cwnd * 3 / 2 - cwnd) * 1024 / cwnd);
    }

    private static void receiverBounds() {
        part("9, bounds");
        CongestionBench x = one(RENO, false, 1);
        due("receiver(0, -1)", x.receiver(0, -1), NONE);
        due("receiver(0, 7)", x.receiver(0, 7), NONE);
        due("receiver(0, GREATEST)", x.receiver(0, GREATEST), NONE);
        due("receiver(1, 2)", x.receiver(1, 2), NONE);
        due("receiver(-1, 2)", x.receiver(-1, 2), NONE);
        part("9, counts");
        through(x, 29);
        receiverIs(x, 0, 0, 0, 3, 0, 4, 0);
        through(x, 30);
        receiverIs(x, 0, 0, 1, 1, 0, 2, 40, 3, 1, 4, 1, 5, 0, 6, NONE);
        part("9, there already");
        // RTO 1000 is up ahead of the ACK: the SEGMENT comes twice.
        x = one(RENO, false, 1);
        x.link(1, 1, 1000, 1000);
        x.run(3000);
        receiverIs(x, 0, 0, 1, 3, 2, 4, 2, 5, 1);
        part("9, kept already");
        // 0 is lost; 1 is KEPT at 3, and again when the TIMEOUT's way sends it.
        x = one(RENO, false, 2);
        x.link(1, 1, 1, 1);
        x.lose(0);
        x.lose(2);
        through(x, 1000);
        receiverIs(x, 0, 0, 0, 1, 1, 4, 1, 5, 0);
        through(x, 3003);
        receiverIs(x, 0, 0, 2, 1, 0, 4, 2, 5, 0);
    }

    private static void receiverLate() {
        part("9, late");
        CongestionBench x = one(RENO, true, 1);
        through(x, 30);
        receiverIs(x, 0, 0, 1, 3, 0, 6, 130);
        through(x, 129);
        receiverIs(x, 0, 3, 0, 6, 130);
        through(x, 130);
        receiverIs(x, 0, 3, 1, 6, NONE);
        through(x, 149);
        senderIs(x, 0, 0, 0);
        through(x, 150);
        senderIs(x, 0, 0, 1, 3, 3072, 6, 1200);
        part("9, every second");
        x = one(RENO, true, 2);
        through(x, 30);
        receiverIs(x, 0, 3, 0, 6, 130);
        through(x, 40);
        receiverIs(x, 0, 3, 1, 6, NONE, 0, 2);
        through(x, 60);
        senderIs(x, 0, 0, 2, 3, 3072);
    }

    private static void receiverLateBehindHole() {
        part("9, late at a hole");
        CongestionBench x = one(RENO, true, 100);
        x.link(1, 100, 10, 9);
        x.lose(0);
        through(x, 12);
        // 1 is KEPT, and told at once.
        receiverIs(x, 0, 0, 0, 1, 1, 3, 1, 6, NONE);
        through(x, 1010);
        receiverIs(x, 0, 0, 0);
        through(x, 1011);
        // 0 fills the hole: told at once.
        receiverIs(x, 0, 0, 2, 1, 0, 3, 2, 6, NONE);
    }

    private static void keptOnes() {
        part("10");
        CongestionBench x = quick(RENO, 100, 6, 8);
        due("kept(0, 0)", x.kept(0, 0), NONE);
        through(x, 56);
        receiverIs(x, 0, 0, 6, 1, 6);
        int[] want = {7, 9, 10, 11, 12, 13};
        for (int k = 0; k < want.length; k++) {
            due("kept(0, " + k + ")", x.kept(0, k), want[k]);
        }
        due("kept(0, 6)", x.kept(0, 6), NONE);
        due("kept(0, -1)", x.kept(0, -1), NONE);
        due("kept(0, LEAST)", x.kept(0, LEAST), NONE);
        due("kept(0, GREATEST)", x.kept(0, GREATEST), NONE);
        due("kept(1, 0)", x.kept(1, 0), NONE);
        due("kept(-1, 0)", x.kept(-1, 0), NONE);
        through(x, 73);
        due("kept(0, 0)", x.kept(0, 0), 9);
    }

    private static void mostOfCwnd() {
        part("11");
        CongestionBench x = quick(NEWRENO, 100, 6, 8);
        due("most(0)", x.most(0), 2048);
        due("most(1)", x.most(1), 0);
        due("most(-1)", x.most(-1), 0);
        due("most(GREATEST)", x.most(GREATEST), 0);
        through(x, 43);
        due("most(0)", x.most(0), 8192);
        through(x, 62);
        due("most(0)", x.most(0), 8192);
        through(x, 82);
        due("most(0)", x.most(0), 10240);
        // Two DUPLICATES of what was sent at 64 and 65 come behind the 9216 of 82.
        through(x, 102);
        due("most(0)", x.most(0), 11264);
    }

    private static void countBounds() {
        part("12, bounds");
        CongestionBench x = one(RENO, false, 1);
        due("count(-1)", x.count(-1), NONE);
        due("count(10)", x.count(10), NONE);
        due("count(LEAST)", x.count(LEAST), NONE);
        due("count(GREATEST)", x.count(GREATEST), NONE);
        x.run(1);
        countIs(x, 0, 1, 1, 1, 2, 1, 3, 0, 8, 1);
        through(x, 10);
        countIs(x, 6, 1, 8, 0);
        through(x, 30);
        countIs(x, 6, 0, 7, 1, 9, 1);
        through(x, 50);
        countIs(x, 7, 0, 9, 1);
    }

    private static void countAddsUp() {
        part("12, sums");
        CongestionBench x = new CongestionBench();
        for (int f = 0; f < 4; f++) {
            x.flow(f, f % 2 == 0);
            x.send(f, 5000);
        }
        x.link(10, 2, 100, 100);
        for (int n = 0; n < 64; n++) {
            x.lose(n * 9);
        }
        for (int i = 0; i < 30; i++) {
            x.run(137);
            int sum = x.count(3) + x.count(4) + x.count(5) + x.count(6) + x.count(8) + x.count(9);
            due("sum of all that were sent", sum, x.count(2));
        }
        due("some are dropped", x.count(4) > 0, true);
        due("told as lost", x.count(5) > 0, true);
    }
}
