/**
 * The boundaries of V and VI, and of IV's DUPLICATES: for each sentence of the document the
 * numbers on both sides.
 */
public final class RecoveryEdges extends Due {
    private static final int[] KINDS = {RENO, NEWRENO, CUBIC, SACK};

    public static void main(String[] args) {
        duplicateNeedsMoreOut();
        duplicateThatIsLate();
        duplicatesEndWithMore();
        duplicatesUpToThree();
        twoDuplicatesAreNone();
        unaNotBelowRecover();
        ackOfRecoverOrMore();
        oneMoreInRecovery();
        timeoutEndsRecovery();
        cwndAtLeast();
        cubicCwndAtLeast();
        ssthreshAtLeastInTimeout();
        ssthreshAtLeastInRecovery();
        belowSsthresh();
        threeOnBoard();
        threeFarApart();
        nothingOnBoard();
        sackBelowUnaAndW();
        sackWhatIsToBeSent();
        cubicSsthreshAtLeast();
        cwndBelowWmax();
        cwndNearWmax();
        rootOfCube();
        noRootAtWmax();
        targetAtMost();
        dAtMost();
        growsByOne();
        end();
    }

    /** "DUPLICATE: A is UNA, .. NXT above UNA": 0's second answer comes with nothing out, or with 1. */
    private static void duplicateNeedsMoreOut() {
        part("IV, NXT above UNA");
        for (int more = 0; more <= 1; more++) {
            CongestionBench x = one(RENO, false, 1);
            x.link(1, 1, 600, 500);
            through(x, 1500);
            senderIs(x, 0, 0, 1, 1, 1, 10, 1, 12, 1);
            x.link(1, 1, 1000, 500);
            if (more > 0) {
                x.send(0, more);
            }
            through(x, 2100);
            senderIs(x, 0, 0, 1, 1, 1 + more, 8, 0);
            through(x, 2101);
            senderIs(x, 0, 0, 1, 1, 1 + more, 8, more);
        }
    }

    /**
     * "It does not come of a PROBE's or WINDOW's telling": an answer that is late does not, but that
     * of a WINDOW's change does, if both tell what is told already and take 200 TICKS.
     */
    private static void duplicateThatIsLate() {
        part("IV, a WINDOW's telling");
        for (int changes = 0; changes <= 1; changes++) {
            CongestionBench x = one(RENO, true, 2);
            x.lose(1);
            through(x, 129);
            receiverIs(x, 0, 0, 1, 3, 0, 6, 130);
            x.link(10, 20, 20, 200);
            if (changes == 1) {
                x.window(0, 39);
                x.window(0, 40);
            }
            x.run(1);
            receiverIs(x, 0, 3, 1, 6, NONE);
            x.link(10, 20, 20, 1);
            x.window(0, 41);
            x.run(1);
            x.window(0, 40);
            through(x, 329);
            senderIs(x, 0, 0, 1, 1, 2, 8, 0, 13, 40);
            through(x, 330);
            senderIs(x, 0, 0, 1, 1, 2, 8, 1 - changes, 13, 40);
        }
    }

    /**
     * "N more, no RECOVERY: DUP = 0": 2 takes longer than 3, 4 and 5, so that one, two or all three
     * of them come ahead of it; with three RECOVERY begins, and ends with 2.
     */
    private static void duplicatesEndWithMore() {
        part("V, DUP 0");
        for (int ahead = 1; ahead <= 3; ahead++) {
            CongestionBench x = quick(RENO, 6);
            through(x, 20);
            x.link(1, 100, 11 + ahead, 9);
            x.run(1);
            x.link(1, 100, 10, 9);
            through(x, 40 + ahead);
            senderIs(x, 0, 0, 2, 8, ahead, 9, ahead == 3 ? 1 : 0, 11, ahead == 3 ? 1 : 0);
            through(x, 41 + ahead);
            // With one ahead of it 2 and 4 come in one TICK, and 5 in the next.
            senderIs(x, 0, 0, ahead == 1 ? 5 : 6, 8, 0, 9, 0, 3, ahead == 3 ? 2048 : 6144);
        }
    }

    /** "With 3, no RECOVERY ..: RECOVERY", and "each more: CWND + 1024 (SACK: not)". */
    private static void duplicatesUpToThree() {
        part("V, DUP 3");
        int[] ssthresh = {4096, 4096, 5734, 4096};
        for (int kind : KINDS) {
            CongestionBench x = quick(kind, 100, 6);
            through(x, 59);
            senderIs(x, 0, 0, 6, 2, 14, 3, 8192, 8, 0);
            through(x, 60);
            senderIs(x, 0, 3, 8192, 4, 1048576, 8, 1, 9, 0, 11, 0, 12, 0);
            through(x, 61);
            senderIs(x, 0, 3, 8192, 4, 1048576, 8, 2, 9, 0, 11, 0, 12, 0);
            through(x, 62);
            int cwnd = ssthresh[kind] + (kind == SACK ? 0 : 3072);
            senderIs(x, 0, 3, cwnd, 4, ssthresh[kind], 8, 3, 9, 1, 11, 1, 12, 1);
            through(x, 63);
            cwnd += kind == SACK ? 0 : 1024;
            senderIs(x, 0, 3, cwnd, 4, ssthresh[kind], 8, 4, 9, 1, 11, 1, 12, 1);
        }
    }

    /** Three SEGMENTS behind the hole, or only two: then it is the TIMER that sends it again. */
    private static void twoDuplicatesAreNone() {
        part("V, DUP 2");
        for (int kind : KINDS) {
            for (int behind = 2; behind <= 3; behind++) {
                CongestionBench x = quick(kind, 7 + behind, 6);
                through(x, 100);
                senderIs(x, 0, 11, behind - 2, 12, behind - 2, 0, behind == 3 ? 10 : 6, 8, behind == 3 ? 0 : 2);
                through(x, 300);
                senderIs(x, 0, 0, 7 + behind, 10, 3 - behind, 11, behind - 2);
            }
        }
    }

    /**
     * "UNA not below RECOVER (.. RENO: always)": 6 to 13 are lost, so a TIMEOUT makes RECOVER 14;
     * behind it SEGMENT s is sent as number s + 8. 12, 13 or 14 is lost then.
     */
    private static void unaNotBelowRecover() {
        part("V, RECOVER");
        for (int kind : KINDS) {
            for (int hole = 12; hole <= 14; hole++) {
                CongestionBench x = quick(kind, 100, 6, 7, 8, 9, 10, 11, 12, 13, hole + 8);
                for (int i = 0; i < 150 && x.sender(0, 8) < 3; i++) {
                    x.run(i == 0 ? 250 : 1);
                }
                int begun = kind == RENO || hole == 14 ? 1 : 0;
                senderIs(x, 0, 0, hole, 8, 3, 9, begun, 10, 1, 11, begun);
            }
        }
    }

    /**
     * "RENO, and others if A is RECOVER or more": RECOVER is 14 as 6 is sent again. 12, 13 or none
     * of the others is lost besides, and so A is 12, 13 or 14; or 15, as 14 overtakes 6.
     */
    private static void ackOfRecoverOrMore() {
        part("V, A is RECOVER");
        int[] ssthresh = {4096, 4096, 5734, 4096};
        for (int kind : KINDS) {
            for (int a = 12; a <= 15; a++) {
                CongestionBench x = a < 14 ? quick(kind, 14, 6, a) : quick(kind, a, 6);
                through(x, 62);
                senderIs(x, 0, 0, 6, 2, 14, 9, 1);
                x.link(1, 100, 50, 9);
                x.run(1);
                x.link(1, 100, 1, 9);
                through(x, 121);
                senderIs(x, 0, 0, 6, 9, 1, 1, a == 15 ? 15 : 14);
                through(x, 122);
                boolean ends = kind == RENO || a >= 14;
                senderIs(x, 0, 0, a, 9, ends ? 0 : 1, 11, 1);
                // Six DUPLICATES: CWND was SSTHRESH + 6144, and a - 6 are told.
                boolean partial = !ends && kind != SACK;
                senderIs(x, 0, 3, ssthresh[kind] + (partial ? 1024 * (13 - a) : 0), 8, ends ? 0 : 6, 12, partial ? 2 : 1);
            }
        }
    }

    /** "N more in RECOVERY", and N is 1: 6 and 7 are lost, or 6 and 13, which is told alone in the end. */
    private static void oneMoreInRecovery() {
        part("V, one more");
        for (int kind : KINDS) {
            CongestionBench x = quick(kind, 14, 6, 7);
            through(x, 82);
            senderIs(x, 0, 0, 6, 8, 6, 9, 1, 12, kind == SACK ? 2 : 1);
            int cwnd = x.sender(0, 3);
            through(x, 83);
            boolean ends = kind == RENO;
            senderIs(x, 0, 0, 7, 9, ends ? 0 : 1, 3, ends ? 4096 : cwnd, 8, ends ? 0 : 6, 12, ends ? 1 : 2);
        }
        for (int kind : new int[] {NEWRENO, CUBIC}) {
            CongestionBench x = quick(kind, 14, 6, 13);
            through(x, 101);
            senderIs(x, 0, 0, 13, 9, 1, 12, 2);
            through(x, 102);
            senderIs(x, 0, 0, 14, 9, 0, 8, 0, 3, kind == CUBIC ? 5734 : 4096);
        }
    }

    /** "RECOVERY ends; DUP 0": 6 is lost again as number 14, and the TIMER is due at 243. */
    private static void timeoutEndsRecovery() {
        part("IV, a TIMEOUT in RECOVERY");
        int[] cwnds = {11264, 11264, 12902, 4096};
        for (int kind : KINDS) {
            CongestionBench x = quick(kind, 14, 6, 14);
            through(x, 242);
            senderIs(x, 0, 0, 6, 1, 14, 3, cwnds[kind], 8, 7, 9, 1, 10, 0, 11, 1, 12, 1, 14, 243);
            through(x, 243);
            int ssthresh = kind == CUBIC ? 9031 : 4096;
            senderIs(x, 0, 0, 6, 1, 7, 2, 14, 3, 1024, 4, ssthresh, 5, 400, 8, 0, 9, 0, 10, 1, 11, 1, 12, 2, 14, 643, 18, 1);
            through(x, 263);
            senderIs(x, 0, 0, 14, 1, 14, 3, 2048, 9, 0, 12, 2, 14, NONE);
        }
    }

    /**
     * "CWND = the greater of 1024 and CWND - 1024 N + 1024": 14 and another one of 16 are lost, and
     * three ACKS are quick, the others slow. CWND is 11264 as N are told: of 9 it leaves 3072.
     */
    private static void cwndAtLeast() {
        part("V, CWND at least 1024");
        int[] left = {3072, 2048, 1024, 1024, 1024, 1024, 1024};
        for (int n = 9; n <= 15; n++) {
            CongestionBench x = toldAtOnce(NEWRENO, n);
            senderIs(x, 0, 0, 14, 1, 30, 9, 1, 3, 11264, 4, 8192);
            through(x, 94);
            senderIs(x, 0, 0, 14 + n, 9, 1, 12, 2, 3, left[n - 9]);
        }
    }

    /** Of CUBIC CWND is 14540: 1228 is left of 14, and of 15 it would be 204. */
    private static void cubicCwndAtLeast() {
        part("V, CUBIC's CWND at least 1024");
        int[] left = {2252, 1228, 1024};
        for (int n = 13; n <= 15; n++) {
            CongestionBench x = toldAtOnce(CUBIC, n);
            senderIs(x, 0, 0, 14, 1, 30, 9, 1, 3, 14540, 4, 11468);
            through(x, 94);
            senderIs(x, 0, 0, 14 + n, 9, 1, 12, 2, 3, left[n - 13]);
        }
    }

    /** RECOVERY has begun at TICK 82, and an ACK of 14 + n comes at 94. */
    private static CongestionBench toldAtOnce(int kind, int n) {
        CongestionBench x = quick(kind, 30, 14, 14 + n);
        through(x, 73);
        x.link(1, 100, 10, 1000);
        through(x, 92);
        x.link(1, 100, 10, 1);
        return x;
    }

    /** "SSTHRESH = the greater of 2048 and (NXT - UNA) * 512": so many are lost, and nothing is behind them. */
    private static void ssthreshAtLeastInTimeout() {
        part("IV, SSTHRESH at least 2048");
        for (int kind : KINDS) {
            for (int out = 1; out <= 6; out++) {
                CongestionBench x = quick(kind, 6 + out);
                for (int i = 0; i < out; i++) {
                    x.lose(6 + i);
                }
                x.run(100);
                senderIs(x, 0, 0, 6, 1, 6 + out, 3, 8192, 10, 0, 18, out);
                x.run(150);
                senderIs(x, 0, 10, 1, 4, kind == CUBIC ? 5734 : Math.max(2048, out * 512));
            }
        }
    }

    /** "SSTHRESH as at a TIMEOUT": four, five or six are out as RECOVERY begins. */
    private static void ssthreshAtLeastInRecovery() {
        part("V, SSTHRESH at least 2048");
        for (int kind : new int[] {RENO, NEWRENO, SACK}) {
            for (int out = 4; out <= 6; out++) {
                CongestionBench x = quick(kind, 6 + out, 6);
                through(x, 61);
                senderIs(x, 0, 9, 0, 18, out);
                through(x, 62);
                int ssthresh = Math.max(2048, out * 512);
                senderIs(x, 0, 9, 1, 4, ssthresh, 3, ssthresh + (kind == SACK ? 0 : 3072));
            }
        }
    }

    /** "Below SSTHRESH: CWND + 1024; else it GROWS": SSTHRESH is 2048, 2560 or 3072, CWND 1024 at first. */
    private static void belowSsthresh() {
        part("V, below SSTHRESH");
        int[][] cwnds = {{1024, 2048, 2560, 2969}, {1024, 2048, 3072, 3413}, {1024, 2048, 3072, 3413}};
        for (int out = 4; out <= 6; out++) {
            CongestionBench x = quick(RENO, 6 + out);
            for (int i = 0; i < out; i++) {
                x.lose(6 + i);
            }
            x.run(250);
            senderIs(x, 0, 4, out * 512, 12, 1);
            for (int una = 6; una < 10; una++) {
                while (x.sender(0, 0) < una && x.count(0) < 400) {
                    x.run(1);
                }
                senderIs(x, 0, 0, una, 3, cwnds[out - 4][una - 6]);
            }
        }
    }

    /** "Above which three or more are on BOARD": 9 and 10 are two, and 11 is the third. */
    private static void threeOnBoard() {
        part("V, three on BOARD");
        CongestionBench x = quick(SACK, 14, 6, 8);
        through(x, 62);
        // 6 is sent again; 8 and 11 to 13 are in the PIPE with it.
        senderIs(x, 0, 8, 3, 9, 1, 12, 1, 18, 5, 3, 4096);
        through(x, 63);
        senderIs(x, 0, 8, 4, 12, 2, 18, 4);
        // UNA as RECOVERY begins is LOST: 6 is not in the PIPE until it is sent again, and then once.
        x = quick(SACK, 10, 6);
        through(x, 62);
        senderIs(x, 0, 9, 1, 12, 1, 18, 1);
    }

    /** Of 400 to 599 only 448, 512 and 576 come: what is below 448 is LOST, what is between is not. */
    private static void threeFarApart() {
        part("V, three far apart");
        CongestionBench x = wide(SACK, false);
        x.link(1, 0, 1, 1);
        for (int n = 400; n < 448; n++) {
            x.lose(n);
        }
        for (int segments : new int[] {48, 64, 64, 24}) {
            x.send(0, segments);
            x.run(2);
        }
        x.run(1);
        receiverIs(x, 0, 0, 400, 1, 3);
        due("kept(0, 0)", x.kept(0, 0), 448);
        due("kept(0, 2)", x.kept(0, 2), 576);
        senderIs(x, 0, 0, 400, 1, 600, 8, 2, 9, 0, 18, 200);
        x.run(1);
        // 63 and 63 between them, 23 behind them, and 400, which is sent again.
        senderIs(x, 0, 8, 3, 9, 1, 3, 102400, 12, 1, 18, 150);
    }

    /**
     * "BOARD of the sender is all that the latest ACK told as KEPT": that of 5, which tells 6 and
     * has nothing KEPT, takes 40 TICKS, and so comes behind those of 7 to 11.
     */
    private static void nothingOnBoard() {
        part("V, nothing on BOARD");
        CongestionBench x = quick(SACK, 14, 6);
        through(x, 33);
        x.link(1, 100, 10, 40);
        x.run(1);
        x.link(1, 100, 10, 9);
        through(x, 73);
        // 12, 13, and 6, which is sent again.
        senderIs(x, 0, 0, 6, 1, 14, 3, 4096, 8, 4, 9, 1, 12, 1, 18, 3);
        through(x, 74);
        // 7 to 13, none of which is LOST now, and 6.
        senderIs(x, 0, 0, 6, 1, 14, 8, 5, 12, 1, 18, 8);
        through(x, 80);
        senderIs(x, 0, 0, 6, 8, 6, 12, 1, 18, 2);
        through(x, 83);
        senderIs(x, 0, 0, 14, 9, 0, 12, 1, 18, 0);
    }

    /** "Without one NXT, if it is .. below UNA + W": UNA is 6, NXT 14, and W 7 to 10. */
    private static void sackBelowUnaAndW() {
        part("V, SACK's W");
        for (int w = 8; w <= 10; w++) {
            CongestionBench x = quick(SACK, 100, 6, 8);
            x.window(0, w);
            through(x, 63);
            senderIs(x, 0, 0, 6, 1, 14, 9, 1, 12, 2, 13, w, 18, 4);
            due("at 64", through(x, 64), w > 8 ? 1 : 0);
            senderIs(x, 0, 1, w > 8 ? 15 : 14, 18, w > 8 ? 4 : 3);
            due("at 65", through(x, 65), w > 9 ? 1 : 0);
            senderIs(x, 0, 1, 6 + w, 12, 2);
        }
    }

    /** ".. if it is to be sent .. else no more": 14, 15 or 16 are told. */
    private static void sackWhatIsToBeSent() {
        part("V, SACK's end");
        for (int goal = 14; goal <= 16; goal++) {
            CongestionBench x = quick(SACK, goal, 6, 8);
            through(x, 63);
            senderIs(x, 0, 0, 6, 1, 14, 9, 1, 12, 2, 18, 4);
            due("at 64", through(x, 64), goal > 14 ? 1 : 0);
            due("at 65", through(x, 65), goal > 15 ? 1 : 0);
            senderIs(x, 0, 1, goal, 12, 2);
        }
    }

    /** "SSTHRESH = the greater of 2048 and CWND * 7 / 10": CWND is 2048 or 3072. */
    private static void cubicSsthreshAtLeast() {
        part("VI, SSTHRESH at least 2048");
        CongestionBench x = quick(CUBIC, 1, 0);
        through(x, 1000);
        senderIs(x, 0, 4, 2048, 16, 2048, 10, 1);
        x = quick(CUBIC, 2, 1);
        through(x, 220);
        senderIs(x, 0, 0, 1, 4, 2150, 16, 3072, 10, 1);
        x = quick(CUBIC, 3, 2);
        through(x, 300);
        senderIs(x, 0, 4, 2867, 16, 4096, 10, 1);
    }

    /** "If CWND is below WMAX: WMAX = CWND * 85 / 100, else WMAX = CWND." */
    private static void cwndBelowWmax() {
        part("VI, CWND below WMAX");
        // 0 is lost once or twice; then it is told, CWND is 2048, and 1 is lost.
        CongestionBench x = quick(CUBIC, 1, 0, 1);
        through(x, 1000);
        senderIs(x, 0, 3, 1024, 16, 2048);
        through(x, 3000);
        senderIs(x, 0, 3, 1024, 16, 870);
        x = quick(CUBIC, 1, 0, 2);
        through(x, 1100);
        senderIs(x, 0, 0, 1, 3, 2048, 16, 2048);
        x.send(0, 1);
        x.run(2500);
        senderIs(x, 0, 0, 2, 10, 2, 16, 2048);
    }

    /** CWND is WMAX - 1, WMAX or WMAX + 1 at a loss. */
    private static void cwndNearWmax() {
        part("VI, CWND about WMAX");
        for (int off = -1; off <= 1; off++) {
            CongestionBench x = plateau(1175 + off);
            x.run(2500);
            senderIs(x, 0, 3, 172032 + off, 16, 172032, 18, 0);
            x.lose(x.count(2));
            x.send(0, 1);
            x.run(300);
            senderIs(x, 0, 10, 2, 16, off < 0 ? 146226 : 172032 + off);
        }
    }

    /** A CUBIC flow whose CWND was 1024 * j at a TIMEOUT, and is back at SSTHRESH: the next ACK makes it GROW. */
    private static CongestionBench backAtSsthresh(int j) {
        CongestionBench x = one(CUBIC, false, j - 2);
        x.link(1, 100, 1, 1);
        x.run(1000);
        x.lose(x.count(2));
        x.send(0, 1);
        x.run(300);
        int ssthresh = 1024 * j * 7 / 10;
        senderIs(x, 0, 0, j - 1, 3, 2048, 4, ssthresh, 10, 1, 16, 1024 * j);
        x.send(0, (ssthresh + 1023) / 1024 - 2);
        x.run(400);
        senderIs(x, 0, 3, (ssthresh + 1023) / 1024 * 1024, 17, 0, 18, 0);
        return x;
    }

    /** "The greatest number whose third power is not above ..": that is 5000 to the third, just, for 50 SEGMENTS. */
    private static void rootOfCube() {
        part("VI, K");
        int[][] roots = {{3, 0}, {166, 4966}, {167, 5000}, {168, 5000}, {169, 5000}, {170, 5033}, {256, 5748}};
        for (int[] r : roots) {
            CongestionBench x = backAtSsthresh(r[0]);
            long above = 1024L * r[0] - x.sender(0, 3);
            x.send(0, 1);
            x.run(10);
            long k = x.sender(0, 17);
            due("K of " + above, k, r[1]);
            due("not above", k * k * k <= above * 2500000000L / 1024, true);
            due("the greatest", (k + 1) * (k + 1) * (k + 1) > above * 2500000000L / 1024, true);
        }
    }

    /** CUBIC, CWND 2048 at WMAX 2048, the EPOCH to come; every R is 3. */
    private static CongestionBench atWmax() {
        CongestionBench x = one(CUBIC, false, 1);
        x.link(1, 100, 1, 1);
        x.lose(0);
        through(x, 1003);
        senderIs(x, 0, 0, 1, 3, 2048, 4, 2048, 16, 2048);
        return x;
    }

    /** "(0 if CWND is not below WMAX)", and "if EST is above CWND, CWND is EST". */
    private static void noRootAtWmax() {
        part("VI, K of none");
        CongestionBench x = atWmax();
        x.send(0, 1);
        through(x, 1006);
        senderIs(x, 0, 0, 1, 17, 0, 3, 2048);
        through(x, 1007);
        // TARGET is 2048, so CWND 2049; but EST is 2048 + 271.
        senderIs(x, 0, 0, 2, 17, 0, 16, 2048, 3, 2319, 6, 24);
    }

    /** As the EPOCH began at 1007, an ACK that makes d as told; CWND is 2319. */
    private static CongestionBench grownAt(int d) {
        CongestionBench x = atWmax();
        x.send(0, 1);
        through(x, 1007 + d - 3 - 4);
        senderIs(x, 0, 3, 2319, 6, 24);
        x.send(0, 1);
        through(x, 1007 + d - 3 - 1);
        senderIs(x, 0, 3, 2319);
        x.run(1);
        senderIs(x, 0, 0, 3, 6, 24, 17, 0);
        return x;
    }

    /** "TARGET .. held between CWND and CWND * 3 / 2", which is 3478: 3475 and 3477 are not held, 3480 is. */
    private static void targetAtMost() {
        part("VI, TARGET");
        // (TARGET - 2319) * 1024 / 2319: 510 of 3475, 511 of 3477 and of 3478; 512 it would be of 3480.
        int[][] cwnds = {{100, 2558}, {1300, 2596}, {1516, 2829}, {1517, 2830}, {1518, 2830}, {1519, 2830}, {5000, 2830}};
        for (int[] c : cwnds) {
            senderIs(grownAt(c[0]), 0, 3, c[1]);
        }
        // 100 and less: TARGET is below CWND, so it is 2320; but EST is 2319 + 239.
    }

    /**
     * "d .. held between -100000 and 100000": TARGET is CWND * 3 / 2 long before, so what is seen is
     * that no greater d, whose third power is beyond a long, does otherwise. (d is never below
     * -5769, for CWND is at least SSTHRESH.)
     */
    private static void dAtMost() {
        part("VI, d");
        for (int d : new int[] {99999, 100000, 100001, 131071, 131072, 131073, 208064, 262144}) {
            senderIs(grownAt(d), 0, 3, 2830);
        }
    }

    /**
     * WMAX is 172032 and K 5000; from d of about -800 on so many SEGMENTS are sent, one a TICK, so
     * that CWND comes up to TARGET, which is about WMAX then.
     */
    private static CongestionBench plateau(int segments) {
        CongestionBench x = backAtSsthresh(168);
        x.send(0, 1);
        x.run(4200);
        senderIs(x, 0, 17, 5000, 3, 120836);
        x.send(0, segments);
        return x;
    }

    /** "CWND by the greater of 1 and (TARGET - CWND) * 1024 / CWND": that is 2, then 1, then 0. */
    private static void growsByOne() {
        part("VI, the greater of 1");
        CongestionBench x = plateau(5000);
        // The EPOCH is three TICKS behind the first of the 4200.
        int epoch = x.count(0) - 4200 + 3;
        int[] waits = {825, 60, 200};
        for (int i = 0; i < waits.length; i++) {
            x.run(waits[i]);
            for (int j = 0; j < 10; j++) {
                long cwnd = x.sender(0, 3);
                long d = x.count(0) - epoch + x.sender(0, 6) / 8 - 5000;
                long target = 172032 + d * d * d * 4096 / 10000000000L;
                due("at " + d + " it would be", (target - cwnd) * 1024 / cwnd, 2 - i);
                x.run(1);
                senderIs(x, 0, 3, (int) cwnd + Math.max(1, 2 - i));
            }
        }
    }
}
