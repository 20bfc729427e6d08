/**
 * The boundaries of III and IV, and of the promises on senders and their CWND: for each sentence
 * of the document the numbers on both sides.
 */
public final class SenderEdges extends Due {
    public static void main(String[] args) {
        outBelowCwnd();
        nxtBelowUnaAndW();
        againBelowHigh();
        cwndInSlowStart();
        cwndInGrowth();
        cwndInRecovery();
        timerIsSetOnce();
        timerAnewOrOff();
        timerWithNxtAtUna();
        probeWithoutWindow();
        probeWithNothingToSend();
        probeBehindTimeout();
        probeStillShut();
        probePutOffByOne();
        probeDoublesUpToMost();
        ackBelowUna();
        ackAboveNxt();
        ackThatTellsTheMeasured();
        measuredOneAtATime();
        measuredUntilTheTimer();
        rtoAtLeast();
        rtoDoublesUpToMost();
        rtoMeasuredUpToMost();
        senderWhats();
        mostOfFlows();
        end();
    }

    /** "OUT is below CWND / 1024 (downwards)": a burst of ten, of which so many are sent. */
    private static void outBelowCwnd() {
        part("III, OUT below CWND / 1024");
        int[] cwnds = {2048, 2560, 2969, 3322, 3637, 3925, 4192};
        for (int grown = 0; grown < cwnds.length; grown++) {
            CongestionBench x = one(RENO, false, 1);
            x.lose(0);
            through(x, 1050);
            for (int i = 0; i < grown; i++) {
                x.send(0, 1);
                x.run(60);
            }
            senderIs(x, 0, 3, cwnds[grown], 18, 0);
            x.send(0, 10);
            due("run(1)", x.run(1), cwnds[grown] / 1024);
            senderIs(x, 0, 18, cwnds[grown] / 1024);
        }
        CongestionBench x = one(RENO, false, 10);
        due("with 2048", x.run(1), 2);
        through(x, 50);
        senderIs(x, 0, 3, 3072, 18, 3);
    }

    /** "And NXT below UNA + W": a burst of 300, with a CWND for 256. */
    private static void nxtBelowUnaAndW() {
        part("III, NXT below UNA + W");
        for (int w : new int[] {0, 1, 2, 39, 40, 41, 199, 200}) {
            CongestionBench x = wide(RENO, false);
            x.window(0, w);
            x.run(10);
            senderIs(x, 0, 13, w, 3, 262144);
            x.send(0, 300);
            due("run(1)", x.run(1), w);
            senderIs(x, 0, 0, 400, 1, 400 + w, 2, 400 + w, 18, w);
        }
    }

    /** "A SEGMENT below HIGH that is sent is sent AGAIN": 1 is, and 2, at HIGH, is not. */
    private static void againBelowHigh() {
        part("III, AGAIN");
        CongestionBench x = one(RENO, false, 3);
        loseAll(x, 0, 1);
        through(x, 999);
        senderIs(x, 0, 1, 2, 2, 2, 12, 0);
        through(x, 1000);
        senderIs(x, 0, 1, 1, 2, 2, 12, 1);
        due("at 1050", through(x, 1050), 2);
        senderIs(x, 0, 1, 3, 2, 3, 12, 2);
    }

    /** "CWND is never above 262144": 2048 and 254 times 1024. */
    private static void cwndInSlowStart() {
        part("III, CWND in slow start");
        CongestionBench x = one(RENO, false, 252);
        x.link(1, 100, 1, 1);
        x.run(1000);
        int[] cwnds = {260096, 261120, 262144, 262144, 262144};
        for (int i = 0; i < cwnds.length; i++) {
            senderIs(x, 0, 0, 252 + i, 3, cwnds[i], 4, 1048576);
            due("most(0)", x.most(0), cwnds[i]);
            x.send(0, 1);
            x.run(10);
        }
    }

    /** CWND grows by 4 in the end, to 262144 and no further. */
    private static void cwndInGrowth() {
        part("III, CWND in growth");
        CongestionBench x = wide(RENO, false);
        x.link(1, 0, 1, 1);
        x.send(0, 100000);
        x.run(1);
        x.link(1, 100, 1, 1);
        x.window(0, 40);
        x.run(20000);
        senderIs(x, 0, 4, 101888, 10, 1);
        x.run(9800);
        for (int i = 0; i < 100 && x.sender(0, 3) < 262100; i++) {
            x.run(10);
        }
        int cwnd = x.sender(0, 3);
        due("near the bound", cwnd >= 262100 && cwnd < 262144, true);
        for (int i = 0; i < 15; i++) {
            x.run(1);
            cwnd = Math.min(262144, cwnd + 4);
            senderIs(x, 0, 3, cwnd, 10, 1, 11, 0);
        }
        due("CWND", cwnd, 262144);
    }

    /** In RECOVERY each DUPLICATE adds 1024: 183500 + 3072 + 73 * 1024 is below the bound, one more is not. */
    private static void cwndInRecovery() {
        part("III, CWND in RECOVERY");
        CongestionBench x = wide(CUBIC, false);
        int start = x.count(0);
        loseAll(x, 400, 500);
        x.send(0, 100);
        // The ACK of SEGMENT 400 + k, k from 1 on, is there at start + 2 + k.
        through(x, start + 5);
        senderIs(x, 0, 8, 3, 9, 1, 3, 186572, 4, 183500, 16, 262144);
        through(x, start + 77);
        senderIs(x, 0, 8, 75, 3, 260300);
        through(x, start + 78);
        senderIs(x, 0, 8, 76, 3, 261324);
        through(x, start + 79);
        senderIs(x, 0, 8, 77, 3, 262144);
        through(x, start + 80);
        senderIs(x, 0, 8, 78, 3, 262144);
        due("most(0)", x.most(0), 262144);
    }

    /** "It is set to RTO ticks on when a SEGMENT is sent and it is not set." */
    private static void timerIsSetOnce() {
        part("III, the TIMER is set");
        CongestionBench x = one(RENO, false, 0);
        x.run(3);
        senderIs(x, 0, 14, NONE);
        x.send(0, 1);
        senderIs(x, 0, 14, NONE);
        x.run(1);
        senderIs(x, 0, 14, 1003);
        x.send(0, 1);
        x.run(1);
        senderIs(x, 0, 1, 2, 14, 1003);
        // A SEGMENT that is LOST as told, or DROPPED, is sent all the same.
        x = one(RENO, false, 1);
        x.lose(0);
        x.run(1);
        senderIs(x, 0, 14, 1000);
        through(x, 999);
        senderIs(x, 0, 10, 0, 14, 1000);
        through(x, 1000);
        senderIs(x, 0, 10, 1, 14, 3000);
    }

    /** "Anew by each ACK that tells more than UNA, if OUT is above 0 behind it, else it is off." */
    private static void timerAnewOrOff() {
        part("III, the TIMER anew");
        CongestionBench x = one(RENO, false, 2);
        through(x, 49);
        senderIs(x, 0, 14, 1000);
        through(x, 50);
        senderIs(x, 0, 0, 1, 18, 1, 14, 250);
        through(x, 59);
        senderIs(x, 0, 14, 250);
        through(x, 60);
        senderIs(x, 0, 0, 2, 18, 0, 14, NONE);
        // An ACK that tells no more leaves it: 2 is lost, and 3's ACK is there at 41.
        x = quick(RENO, 5, 2);
        through(x, 21);
        senderIs(x, 0, 0, 2, 14, 221);
        through(x, 41);
        senderIs(x, 0, 0, 2, 8, 2, 14, 221);
    }

    /** "A TIMER that is due otherwise with NXT at UNA is off": nothing is sent, nothing counted. */
    private static void timerWithNxtAtUna() {
        part("III, NXT at UNA");
        for (int w = 0; w <= 40; w += 40) {
            CongestionBench x = one(CUBIC, false, 1);
            through(x, 30);
            x.window(0, w);
            through(x, 51);
            senderIs(x, 0, 0, 1, 1, 1, 13, w, 14, NONE);
            due("to 5000", through(x, 5000), 0);
            senderIs(x, 0, 3, 3072, 4, 1048576, 5, 200, 10, 0, 14, NONE, 15, 0, 16, 0);
        }
    }

    /** W is told at TICK 20, and three are to be sent from 21 on. */
    private static CongestionBench told(int w) {
        CongestionBench x = one(RENO, false, 0);
        x.window(0, w);
        through(x, 20);
        x.send(0, 3);
        return x;
    }

    /** "PROBE: .. if W is 0": with 1 the SEGMENT itself goes. */
    private static void probeWithoutWindow() {
        part("III, a PROBE for W 0");
        for (int w = 0; w <= 2; w++) {
            CongestionBench x = told(w);
            senderIs(x, 0, 13, w, 14, NONE);
            due("run(1)", x.run(1), w);
            senderIs(x, 0, 1, w, 2, w, 14, 1021, 15, 0, 18, w);
            through(x, 1020);
            senderIs(x, 0, 15, 0);
            through(x, 1021);
            senderIs(x, 0, 15, w == 0 ? 1 : 0, 0, w == 0 ? 0 : 3, 12, 0, 10, 0);
        }
    }

    /** ".. and NXT is UNA and below what is to be sent". */
    private static void probeWithNothingToSend() {
        part("III, nothing to PROBE with");
        CongestionBench x = one(RENO, false, 0);
        x.window(0, 0);
        through(x, 20);
        due("to 5000", through(x, 5000), 0);
        senderIs(x, 0, 13, 0, 14, NONE, 15, 0);
        x.send(0, 1);
        due("run(1)", x.run(1), 0);
        senderIs(x, 0, 14, 6001, 15, 0);
        due("to 6000", through(x, 6000), 0);
        due("at 6001", through(x, 6001), 1);
        senderIs(x, 0, 0, 0, 1, 0, 2, 1, 5, 2000, 12, 0, 14, 8001, 15, 1, 18, 0);
        // The last one is told with a WINDOW of 0: the TIMER is off until there is one more.
        x = one(RENO, false, 1);
        through(x, 30);
        x.window(0, 0);
        through(x, 51);
        senderIs(x, 0, 0, 1, 1, 1, 13, 0, 14, NONE);
        x.send(0, 1);
        x.run(1);
        senderIs(x, 0, 1, 1, 14, 252, 15, 0);
        through(x, 251);
        senderIs(x, 0, 15, 0);
        through(x, 252);
        senderIs(x, 0, 1, 1, 2, 2, 5, 400, 14, 652, 15, 1);
    }

    /** With NXT above UNA it is a TIMEOUT that is due; what is PROBED then was sent before. */
    private static void probeBehindTimeout() {
        part("III, a PROBE behind a TIMEOUT");
        CongestionBench x = one(RENO, false, 2);
        x.run(1);
        x.window(0, 0);
        through(x, 60);
        senderIs(x, 0, 0, 0, 1, 2, 8, 2, 13, 0, 14, 1000);
        through(x, 999);
        senderIs(x, 0, 10, 0, 15, 0);
        due("at 1000", through(x, 1000), 0);
        senderIs(x, 0, 0, 0, 1, 0, 2, 2, 3, 1024, 5, 2000, 8, 0, 10, 1, 12, 0, 14, 3000, 15, 0);
        due("to 2999", through(x, 2999), 0);
        due("at 3000", through(x, 3000), 1);
        senderIs(x, 0, 0, 0, 1, 0, 2, 2, 3, 1024, 5, 4000, 10, 1, 12, 0, 14, 7000, 15, 1, 18, 0);
    }

    /** "When it is due then (W still 0)": the ACK that opens W comes a TICK ahead, in time, or too late. */
    private static void probeStillShut() {
        part("III, W still 0");
        for (int at = 1020; at <= 1022; at++) {
            CongestionBench x = told(0);
            through(x, at - 21);
            x.window(0, 5);
            through(x, at - 1);
            senderIs(x, 0, 13, 0, 15, at == 1022 ? 1 : 0, 14, at == 1022 ? 3021 : 1021);
            due("run(1)", x.run(1), 2);
            int rto = at == 1022 ? 2000 : 1000;
            senderIs(x, 0, 13, 5, 1, 2, 2, 2, 5, rto, 12, at == 1022 ? 1 : 0, 14, at + rto, 15, at == 1022 ? 1 : 0);
            through(x, at + 100);
            senderIs(x, 0, 0, 3, 10, 0, 15, at == 1022 ? 1 : 0);
        }
        // An ACK with W 0 does not put it off, nor set it anew: the PROBE's own answer.
        CongestionBench x = told(0);
        through(x, 1071);
        receiverIs(x, 0, 3, 2, 4, 1, 5, 1);
        senderIs(x, 0, 13, 0, 14, 3021, 8, 0);
    }

    /** "An ACK with W above 0 behind which NXT is UNA puts it off": a W of 1 does, and one of 0 does not. */
    private static void probePutOffByOne() {
        part("III, a PROBE is put off");
        for (int w = 0; w <= 2; w++) {
            CongestionBench x = told(0);
            through(x, 99);
            x.window(0, 3);
            x.window(0, w);
            through(x, 119);
            senderIs(x, 0, 13, 0, 14, 1021);
            due("at 120", through(x, 120), w);
            senderIs(x, 0, 13, w, 14, w == 0 ? 1021 : 1120, 1, w, 15, 0);
        }
    }

    /** "RTO doubles (held to MOST)": 1000, 2000, .. 32000, and 60000 from then on. */
    private static void probeDoublesUpToMost() {
        part("III, PROBES up to MOST");
        CongestionBench x = told(0);
        int due = 1021;
        int rto = 1000;
        for (int probes = 1; probes <= 8; probes++) {
            through(x, due - 1);
            senderIs(x, 0, 5, rto, 14, due, 15, probes - 1);
            through(x, due);
            rto = rto < 30000 ? rto * 2 : 60000;
            due += rto;
            senderIs(x, 0, 5, rto, 14, due, 15, probes, 10, 0, 2, 1);
        }
        due("RTO", rto, 60000);
    }

    /** "Below UNA: nothing": not W either. "A is UNA ..: else it tells W alone." */
    private static void ackBelowUna() {
        part("IV, an ACK below UNA");
        // An ACK with a WINDOW of 7 tells 0, 1 or 2, and takes long; one with 9 overtakes it.
        for (int told = 0; told <= 2; told++) {
            CongestionBench x = one(RENO, false, 2);
            x.link(10, 20, 20, 300);
            int at = 29 + 10 * told;
            through(x, at - 1);
            x.window(0, 7);
            x.run(1);
            x.link(10, 20, 20, 1);
            x.window(0, 9);
            through(x, 100);
            int cwnd = x.sender(0, 3);
            senderIs(x, 0, 0, 2, 1, 2, 13, 9);
            // With 2 there is one more that is not below UNA: 1's own, with 40, at 340.
            through(x, at + 299);
            senderIs(x, 0, 13, told == 2 ? 40 : 9);
            through(x, at + 300);
            senderIs(x, 0, 0, 2, 3, cwnd, 8, 0, 13, told == 2 ? 7 : 9);
        }
    }

    /**
     * "NXT is A at least": a TIMEOUT at 1000 has made NXT 0, and 0 is sent again, so it is 1. Then
     * come ACKS that tell 1 and 2; or, as answers are late, one that tells 2.
     */
    private static void ackAboveNxt() {
        part("IV, NXT is A at least");
        for (int late = 0; late <= 1; late++) {
            CongestionBench x = one(RENO, late == 1, 2);
            x.link(1, 20, 600, 450);
            through(x, 1000);
            senderIs(x, 0, 0, 0, 1, 1, 2, 2, 10, 1, 12, 1);
            due("at 1051", through(x, 1051), 1 - late);
            senderIs(x, 0, 0, 1 - late, 1, 2 - late, 12, 2 - late);
            due("at 1052", through(x, 1052), 0);
            senderIs(x, 0, 0, 2, 1, 2, 2, 2, 3, late == 1 ? 2048 : 2560, 12, 2 - late, 14, NONE, 18, 0);
        }
    }

    /** "An ACK that tells more than it": one that tells just the MEASURED gives nothing. */
    private static void ackThatTellsTheMeasured() {
        part("IV, more than the MEASURED");
        CongestionBench x = one(RENO, false, 10);
        through(x, 50);
        // R is 50; 2 is MEASURED from now on. At 60 an ACK tells 2, at 100 one tells 3.
        senderIs(x, 0, 0, 1, 1, 4, 6, 400, 7, 100);
        through(x, 60);
        senderIs(x, 0, 0, 2, 6, 400, 7, 100);
        through(x, 99);
        senderIs(x, 0, 0, 2, 6, 400, 7, 100);
        through(x, 100);
        senderIs(x, 0, 0, 3, 6, 400, 7, 75);
    }

    /** "One SEGMENT at a time is MEASURED": 0 is, 1 is not, though it is sent later. */
    private static void measuredOneAtATime() {
        part("IV, one is MEASURED");
        CongestionBench x = one(RENO, false, 1);
        x.run(30);
        x.send(0, 1);
        through(x, 50);
        senderIs(x, 0, 0, 1, 6, 400, 7, 100);
        through(x, 400);
        senderIs(x, 0, 0, 2, 6, 400, 7, 100);
        // Sent again as RECOVERY begins, it is MEASURED no more, and the next new one is.
        x = quick(RENO, 100, 2);
        through(x, 62);
        senderIs(x, 0, 0, 6, 6, 160, 7, 40);
        through(x, 63);
        senderIs(x, 0, 0, 7, 6, 161, 7, 31);
    }

    /** "It is no more when .. the TIMER is due": 1 is lost; 2 is MEASURED, and is told with it behind a TIMEOUT. */
    private static void measuredUntilTheTimer() {
        part("IV, MEASURED until the TIMER");
        for (int lost = 1; lost <= 2; lost++) {
            CongestionBench x = quick(RENO, lost == 1 ? 4 : 6, lost == 1 ? 1 : 2);
            through(x, 39 + lost);
            senderIs(x, 0, 0, lost, 6, 160, 7, 40, 9, 0);
            through(x, 400);
            // With 2 lost three are behind it: the RECOVERY fills it, and 2 itself was the MEASURED one.
            senderIs(x, 0, 0, lost == 1 ? 4 : 6, 6, 160, 7, 40, 10, 2 - lost, 11, lost - 1);
        }
    }

    /** "Between LEAST 200 ..": sums of 198 to 201, at first and later. */
    private static void rtoAtLeast() {
        part("IV, LEAST");
        int[][] first = {{3, 200}, {66, 200}, {67, 201}, {68, 204}};
        for (int[] f : first) {
            CongestionBench x = trip(one(RENO, false, 0), f[0]);
            senderIs(x, 0, 6, 8 * f[0], 7, 2 * f[0], 5, f[1]);
        }
        int[][] later = {{94, 563, 128, 200}, {95, 564, 129, 200}, {96, 565, 130, 200}, {97, 566, 131, 201},
            {98, 567, 132, 202}};
        for (int[] l : later) {
            CongestionBench x = trip(trip(one(RENO, false, 0), 67), l[0]);
            senderIs(x, 0, 6, l[1], 7, l[2], 5, l[3]);
        }
        // VAR - VAR / 4 ends at 3, so the greater of 1 and VAR is VAR always: SRTT / 8 + 3.
        CongestionBench x = one(RENO, false, 0);
        trip(x, 300);
        for (int i = 0; i < 30; i++) {
            trip(x, 300);
        }
        senderIs(x, 0, 6, 2400, 7, 3, 5, 303);
    }

    /** One SEGMENT more, whose ACK is there behind r ticks. */
    private static CongestionBench trip(CongestionBench x, int r) {
        x.link(1, 20, r - 1 - r / 2, r / 2);
        x.send(0, 1);
        x.run(r + 1);
        return x;
    }

    /**
     * "RTO doubles (held to MOST)": a first R of 9999, 10000, 10001 makes it 29997, 30000, 30003.
     * FLOW 0 fills the QUEUE ahead of FLOW 1's SEGMENT, whose RTO four TIMEOUTS have made long.
     */
    private static void rtoDoublesUpToMost() {
        part("IV, MOST");
        int[][] trips = {{79, 1000, 999}, {79, 1000, 1000}, {80, 1000, 901}};
        for (int i = 0; i < trips.length; i++) {
            CongestionBench x = wide(RENO, false);
            x.flow(NEWRENO, false);
            loseAll(x, 400, 401, 402, 403);
            x.send(1, 1);
            x.run(16000);
            senderIs(x, 1, 0, 1, 5, 16000, 6, 0, 10, 4);
            x.link(100, 100, trips[i][1], trips[i][2]);
            x.send(0, trips[i][0]);
            x.send(1, 1);
            int r = 9999 + i;
            x.run(r);
            senderIs(x, 1, 0, 1, 6, 0);
            x.run(1);
            senderIs(x, 1, 0, 2, 6, 8 * r, 7, 2 * r, 5, 3 * r);
            x.link(1, 100, 1, 1);
            x.run(20000);
            x.run(20000);
            countIs(x, 3, 0, 6, 0, 7, 0, 8, 0);
            x.lose(x.count(2));
            x.send(1, 1);
            x.run(20000);
            x.run(3 * r - 20000);
            senderIs(x, 1, 5, 3 * r, 10, 4);
            x.run(1);
            senderIs(x, 1, 5, Math.min(60000, 6 * r), 10, 5);
        }
    }

    /** "RTO = .., held between its bounds": sums of 59999, 60000 and 60001. */
    private static void rtoMeasuredUpToMost() {
        part("IV, MOST as it is measured");
        for (int back = 586; back <= 588; back++) {
            CongestionBench x = longTrip();
            x.link(100, 100, 1, back);
            x.run(10000);
            int r = 52699 + back;
            senderIs(x, 1, 0, 620, 6, 210 - 26 + r, 7, 76 - 19 + r - 26, 9, 0, 10, 10);
            due("SRTT / 8 + VAR", x.sender(1, 6) / 8 + x.sender(1, 7), 59413 + back);
            senderIs(x, 1, 5, Math.min(60000, 59413 + back));
        }
    }

    /**
     * FLOW 1 has a SEGMENT under way behind seven holes, each of which takes some 7500 ticks as
     * FLOW 0 fills the QUEUE, and the last of them is about to be filled. Ahead of that nearly a
     * whole window was DROPPED, and one of it lost time and again until RTO was 60000: what was
     * sent again then is not MEASURED, so that CWND has grown, and RTO is 60000 still.
     */
    private static CongestionBench longTrip() {
        CongestionBench x = wide(RENO, false);
        x.flow(NEWRENO, false);
        x.send(1, 400);
        x.run(2000);
        x.window(1, 200);
        x.window(0, 74);
        x.run(10);
        x.link(1, 0, 1, 1);
        x.send(1, 200);
        x.run(1);
        x.link(1, 100, 1, 1);
        for (int n = 1000; n < 1009; n++) {
            x.lose(n);
        }
        through(x, 207020);
        senderIs(x, 1, 0, 600, 1, 600, 2, 600, 3, 20472, 5, 60000, 6, 210, 7, 76, 10, 10);
        x.link(100, 100, 1, 1);
        x.send(0, 5000);
        through(x, 247021);
        for (int i = 0; i < 7; i++) {
            x.lose(x.count(2) + 2 * i);
        }
        x.send(1, 20);
        through(x, 300722);
        senderIs(x, 1, 0, 612, 1, 620, 2, 620, 5, 60000, 6, 210, 7, 76, 9, 1, 10, 10);
        return x;
    }

    /** "NONE without it, or for another what. (16, 17: 0 but of CUBIC.)" */
    private static void senderWhats() {
        part("8, whats");
        for (int kind = RENO; kind <= SACK; kind++) {
            CongestionBench x = one(kind, false, 1);
            senderIs(x, 0, -2, NONE, -1, NONE, 0, 0, 1, 0, 2, 0, 3, 2048, 4, 1048576, 5, 1000, 6, 0, 7, 0, 8, 0, 9, 0,
                10, 0, 11, 0, 12, 0, 13, 40, 14, NONE, 15, 0, 16, 0, 17, 0, 18, 0, 19, NONE, 20, NONE);
            for (int flow : new int[] {-1, 1, 2, 3, 4}) {
                for (int what = 0; what < 19; what += 3) {
                    senderIs(x, flow, what, NONE);
                }
            }
            x.lose(0);
            through(x, 1051);
            senderIs(x, 0, 10, 1, 16, kind == CUBIC ? 2048 : 0, 17, 0);
            x.send(0, 300);
            x.lose(90);
            x.run(20000);
            due("RECOVERY or TIMEOUT", x.sender(0, 10) + x.sender(0, 11) >= 2, true);
            due("WMAX", x.sender(0, 16) > 0, kind == CUBIC);
            due("K", x.sender(0, 17) > 0, kind == CUBIC);
        }
    }

    /** "The greatest CWND that a FLOW had so far (0 without it)." */
    private static void mostOfFlows() {
        part("11, most");
        CongestionBench x = new CongestionBench();
        due("most(0)", x.most(0), 0);
        x.flow(RENO, false);
        due("most(-1)", x.most(-1), 0);
        due("most(0)", x.most(0), 2048);
        due("most(1)", x.most(1), 0);
        x.flow(RENO, false);
        x.send(0, 3);
        x.lose(2);
        through(x, 49);
        due("most(0)", x.most(0), 2048);
        through(x, 50);
        due("most(0)", x.most(0), 3072);
        due("most(1)", x.most(1), 2048);
        through(x, 2000);
        // A TIMEOUT has made it 1024, and an ACK 2048.
        senderIs(x, 0, 0, 3, 3, 2048, 10, 1);
        due("most(0)", x.most(0), 4096);
        due("most(4)", x.most(4), 0);
        due("most(LEAST)", x.most(LEAST), 0);
        due("most(GREATEST)", x.most(GREATEST), 0);
    }
}
