/**
 * Nothing, one, and as many as there may be: PERSONS, NUMBERS, CALLS, RUNS, rows ALIKE, BRIDGES,
 * NUMBERS that MEND, cells; and numbers that are cut or wrap.
 */
public final class AmountTest {
    private static final int UNKNOWN = -1, STATE = -3, FULL = -4, NONE = -9, INDEX = -13;
    private static final long LOST = Long.MIN_VALUE;

    public static void main(String[] args) {
        persons();
        numbers();
        experts();
        callsKept();
        fullInEveryNet();
        secretsLearnt();
        whomOneMayRing();
        runsWithoutCalls();
        runsOfOneCall();
        fewestAndMost();
        mostRuns();
        noGoodRun();
        rowsAlikeByCalls();
        fourCallsSeenNotFive();
        bridges();
        mends();
        smallNets();
        emptyRow();
        rowOfOneCell();
        rowOfSixtyCells();
        sheetsApart();
        cutToLanes();
        copyAllAndNone();
        traceWraps();
        Check.finish();
    }

    private static void persons() {
        CallRounds x = new CallRounds();
        Check.due("P1 nobody", x.many(0), 0);
        for (int n = 1; n <= 4; n++) {
            Check.due("P2 told " + n, Check.tellNet(x, Check.WHOLE_NETS[n]), n);
            Check.due("P33 persons " + n, x.many(0), n);
            for (int p = 0; p < n; p++) {
                Check.due("P3 its own secret alone", x.ofPerson(p, 0), 1 << p);
                Check.due("P3 all numbers", x.ofPerson(p, 1), (1 << n) - 1);
                Check.due("P3 all numbers in the net", x.ofPerson(p, 2), (1 << n) - 1);
            }
            Check.due("P3 no more", x.ofPerson(n, 0), UNKNOWN);
        }
        Check.due("P2 fewer again", Check.tellNet(x, "p"), 1);
        Check.due("P3 the others are gone", x.ofPerson(1, 0), UNKNOWN);
    }

    private static void numbers() {
        int[] due = {0, 0, 2, 6, 12};
        for (int n = 1; n <= 4; n++) Check.due("P33 all numbers of " + n, Check.withNet(Check.WHOLE_NETS[n]).many(3), due[n]);
        Check.due("P33 none", Check.withNet("p;p;p;p").many(3), 0);
        Check.due("P33 one", Check.withNet("p;p;p;p2").many(3), 1);
        Check.due("P3 its own alone", Check.withNet("p;p;p;p2").ofPerson(1, 2), 2);
        CallRounds x = Check.withCalls("p;p;p;p2", "32");
        Check.due("P33 one in the net, another learnt", x.many(3), 1);
        Check.due("P3 learnt", x.ofPerson(2, 1), 12);
        Check.due("P3 not in the net", x.ofPerson(2, 2), 4);
    }

    private static void experts() {
        Check.due("P33 nobody", new CallRounds().many(2), 0);
        Check.due("P33 one alone", Check.withNet("p").many(2), 1);
        Check.due("P33 none of two", Check.withNet("p1;p").many(2), 0);
        Check.due("P33 both", Check.withCalls("p1;p", "01").many(2), 2);
        CallRounds x = Check.withNet("p123;p023;p013;p012");
        int[] due = {0, 0, 2, 4};
        int[][] calls = {{0, 1}, {2, 3}, {0, 2}, {1, 3}};
        for (int c = 0; c < 4; c++) {
            x.call(calls[c][0], calls[c][1]);
            Check.due("P33 experts behind " + (c + 1) + " calls", x.many(2), due[c]);
        }
        for (int p = 0; p < 4; p++) Check.due("P3 an expert", x.ofPerson(p, 3), 1);
    }

    private static void callsKept() {
        CallRounds x = Check.withNet("p1;p0");
        Check.due("P6 none to take back", x.back(), STATE);
        Check.due("P5 none", x.ofCall(0, 0), UNKNOWN);
        for (int c = 0; c < 12; c++) {
            Check.due("P4 number " + c, x.call(c % 2, 1 - c % 2), c);
            Check.due("P33 as many", x.many(1), c + 1);
            Check.due("P5 not yet", x.ofCall(c + 1, 1), UNKNOWN);
        }
        Check.due("P4 the 13th", x.call(0, 1), FULL);
        for (int c = 0; c < 12; c++) Check.due("P5 who rang in " + c, x.ofCall(c, 1), c % 2);
        for (int left = 11; left >= 0; left--) {
            Check.due("P6 left", x.back(), left);
            Check.due("P5 gone", x.ofCall(left, 1), UNKNOWN);
        }
        Check.due("P6 none left", x.back(), STATE);
        Check.due("P4 from 0 on again", x.call(1, 0), 0);
    }

    private static void fullInEveryNet() {
        for (int n = 2; n <= 4; n++) {
            CallRounds x = Check.withCallCount(Check.WHOLE_NETS[n], 12);
            Check.due("P4 full, of " + n, x.call(0, n - 1), FULL);
            Check.due("P6 one less", x.back(), 11);
            Check.due("P4 one more", x.call(0, n - 1), 11);
            Check.due("P4 full again", x.call(n - 1, 0), FULL);
            Check.due("P2 told anew", Check.tellNet(x, Check.WHOLE_NETS[n]), n);
            Check.due("P4 none are kept", x.call(0, n - 1), 0);
        }
    }

    private static void secretsLearnt() {
        CallRounds x = Check.withCalls("p123;p023;p013;p012", "01 23 02 31 10");
        int[][] due = {{1, 2, 1}, {1, 8, 4}, {2, 12, 3}, {2, 3, 12}, {0, 0, 0}};
        for (int c = 0; c < due.length; c++) {
            Check.due("P5 kind of " + c, x.ofCall(c, 0), due[c][0]);
            Check.due("P5 the one learnt in " + c, x.ofCall(c, 3), due[c][1]);
            Check.due("P5 the other learnt in " + c, x.ofCall(c, 4), due[c][2]);
        }
        // Three secrets by one, one by the other: no call brings more.
        CallRounds y = Check.withCalls("p1;p2;p3;p", "01 12 23");
        Check.due("P5 three at once", y.ofCall(2, 4), 7);
        Check.due("P28 four learnt together: 423, and 23", y.tell(2), 446);
    }

    private static void whomOneMayRing() {
        for (int rule = 0; rule < 4; rule++) {
            Check.due("P7 one alone", Check.withNet("p").may(rule, 0), 0);
            Check.due("P7 without numbers", Check.withNet("p;p0").may(rule, 0), 0);
            Check.due("P7 one", Check.withNet("p;p0").may(rule, 1), 1);
            for (int p = 0; p < 4; p++) Check.due("P7 all others, not itself", Check.withNet("p123;p023;p013;p012").may(rule, p), 15 & ~(1 << p));
            CallRounds over = Check.withCalls("p123;p023;p013;p012", "01 23 02 13");
            for (int p = 0; p < 4; p++) Check.due("P7 nobody, all being experts", over.may(rule, p), 0);
        }
    }

    private static void runsWithoutCalls() {
        for (int rule = 0; rule < 4; rule++) {
            CallRounds one = Check.withNet("p");
            Check.due("P8 a run of no calls", one.runs(rule, 0), 1);
            Check.due("P8 it is good", one.runs(rule, 1), 1);
            Check.due("P9 sure", one.verdict(rule), 2);
            Check.due("P10 fewest", one.calls(rule, 0), 0);
            Check.due("P10 most", one.calls(rule, 1), 0);
            Check.due("P12 none, all are experts", one.best(rule, 0), NONE);
            Check.due("P22 no call", one.within(rule, 1), 1);
            CallRounds apart = Check.withNet("p;p;p;p");
            Check.due("P8 a run of no calls", apart.runs(rule, 0), 1);
            Check.due("P8 it is not good", apart.runs(rule, 1), 0);
            Check.due("P22 no call", apart.within(rule, 1), 1);
        }
    }

    private static void runsOfOneCall() {
        for (int rule = 0; rule < 4; rule++) {
            CallRounds two = Check.withNet("p;p0");
            Check.due("P8 one", two.runs(rule, 0), 1);
            Check.due("P10 fewest", two.calls(rule, 0), 1);
            Check.due("P10 most", two.calls(rule, 1), 1);
            Check.due("P11 it keeps sure", two.keeps(rule, 1, 0), 2);
        }
    }

    private static void fewestAndMost() {
        for (int rule = 0; rule < 4; rule++) {
            CallRounds star = Check.withNet("p123;p;p;p");
            Check.due("P10 the fewest are many", star.calls(rule, 0), 5);
            Check.due("P10 as many as there may be", star.calls(rule, 1), 6);
        }
        Check.due("P10 fewest of the whole net", Check.withNet("p123;p023;p013;p012").calls(2, 0), 4);
        Check.due("P10 none is needed any more", Check.withCalls("p1;p0", "01").calls(0, 1), 0);
        // 12 calls are kept, and the runs go on all the same.
        CallRounds full = Check.withCallCount("p123;p023;p013;p012", 12);
        Check.due("P10 beyond 12 calls, fewest", full.calls(0, 0), Check.withCallCount("p123;p023;p013;p012", 1).calls(0, 0));
    }

    private static void mostRuns() {
        CallRounds x = Check.withNet("p123;p023;p013;p012");
        int[] due = {252288, 5568, 8688, 8688};
        for (int rule = 0; rule < 4; rule++) {
            Check.due("P8 as many as there may be, rule " + rule, x.runs(rule, 0), due[rule]);
            Check.due("P8 all are good, rule " + rule, x.runs(rule, 1), due[rule]);
        }
    }

    private static void noGoodRun() {
        for (int rule = 0; rule < 4; rule++) {
            for (String text : new String[] {"p;p", "p1;p;p", "p1;p0;p3;p2"}) {
                CallRounds x = Check.withNet(text);
                Check.due("P8 none is good in " + text, x.runs(rule, 1), 0);
                Check.due("P9 neither in " + text, x.verdict(rule), 0);
                Check.due("P10 no fewest in " + text, x.calls(rule, 0), NONE);
                Check.due("P10 no most in " + text, x.calls(rule, 1), NONE);
                Check.due("P12 none rings in " + text, x.best(rule, 0), NONE);
                Check.due("P12 none is rung in " + text, x.best(rule, 1), NONE);
            }
            Check.due("P11 neither", Check.withNet("p1;p;p").keeps(rule, 0, 1), 0);
        }
    }

    private static void rowsAlikeByCalls() {
        CallRounds x = Check.withNet("p123;p023;p013;p012");
        int rows = 1;
        for (int count = 0; count <= 4; count++) {
            Check.due("P13 of " + count + " calls without it", x.alike(3), rows);
            Check.due("P13 of " + count + " calls with it", x.alike(0), 1);
            Check.due("P14 of its own secret", x.sure(3, 3, 3), 1);
            Check.due("P15 of its own", x.known(3, 3), 8);
            x.call(0, 1);
            rows *= 6;
        }
        CallRounds one = Check.withNet("p");
        Check.due("P13 one alone", one.alike(0), 1);
        Check.due("P15 one alone", one.known(0, 0), 1);
        Check.due("P16 one alone", one.end(0), 1);
    }

    private static void fourCallsSeenNotFive() {
        for (int count = 0; count <= 12; count++) {
            CallRounds x = Check.withCallCount("p1;p0", count);
            boolean seen = count <= 4;
            int set = count == 0 ? 2 : 3;
            Check.due("P13 behind " + count, x.alike(0), seen ? 1 : STATE);
            Check.due("P14 behind " + count, x.sure(0, 1, 1), seen ? 1 : STATE);
            Check.due("P15 behind " + count, x.known(0, 1), seen ? set : STATE);
            Check.due("P16 behind " + count, x.end(0), !seen ? STATE : count == 0 ? 0 : 1);
        }
        CallRounds x = Check.withCallCount("p1;p0", 5);
        Check.due("P6 four again", x.back(), 4);
        Check.due("P13 four again", x.alike(1), 1);
        x.call(0, 1);
        Check.due("P13 five again", x.alike(1), STATE);
        Check.tellNet(x, "p1;p0");
        Check.due("P13 none", x.alike(1), 1);
    }

    private static void bridges() {
        String[] texts = {"p", "p1;p0", "p1;p", "p1;p2;p", "p1;p2;p3;p", "p123;p;p;p", "p;p0;p0;p0"};
        int[][] due = {{}, {}, {1}, {1, 12}, {1, 12, 23}, {1, 2, 3}, {10, 20, 30}};
        for (int i = 0; i < texts.length; i++) {
            CallRounds x = Check.withNet(texts[i]);
            Check.due("P18 how many in " + texts[i], x.bridge(-1), due[i].length);
            for (int k = 0; k < 12; k++) Check.due("P18 the " + k + "th in " + texts[i], x.bridge(k), k < due[i].length ? due[i][k] : NONE);
        }
    }

    private static void mends() {
        CallRounds none = Check.withNet("p123;p023;p013;p012");
        CallRounds one = Check.withNet("p123;p023;p013;p01");
        CallRounds most = Check.withNet("p123;p;p;p");
        int[] all = {10, 12, 13, 20, 21, 23, 30, 31, 32};
        for (int rule = 0; rule < 4; rule++) {
            Check.due("P20 everybody has all", none.mend(rule, -1), 0);
            Check.due("P20 no first", none.mend(rule, 0), NONE);
            Check.due("P20 one", one.mend(rule, -1), 1);
            Check.due("P20 the first", one.mend(rule, 0), 32);
            Check.due("P20 no second", one.mend(rule, 1), NONE);
            if (rule == 1) continue;
            Check.due("P20 as many as there may be", most.mend(rule, -1), 9);
            for (int k = 0; k < 12; k++) Check.due("P20 the " + k + "th", most.mend(rule, k), k < 9 ? all[k] : NONE);
        }
        Check.due("P20 as many as there may be by rule 1", Check.withNet("p13;p2;p0;p").mend(1, -1), 8);
        Check.due("P20 none mends three apart", Check.withNet("p;p;p").mend(0, -1), 0);
    }

    private static void smallNets() {
        int[] joined = {1, 3, 54};
        for (int n = 1; n <= 3; n++) {
            for (int rule = 0; rule < 4; rule++) {
                CallRounds x = new CallRounds();
                Check.due("P21 joined", x.nets(n, rule, 3), joined[n - 1]);
                Check.due("P21 verdicts", x.nets(n, rule, 0) + x.nets(n, rule, 1) + x.nets(n, rule, 2), joined[n - 1]);
                if (n < 3) Check.due("P21 all are sure", x.nets(n, rule, 2), joined[n - 1]);
            }
        }
        CallRounds x = Check.withCalls("p1;p;p;p", "01");
        Check.due("P21 whatever net there is", x.nets(1, 0, 2), 1);
        Check.due("P21 whatever calls there were", x.nets(2, 3, 2), 3);
    }

    private static void emptyRow() {
        CallRounds x = new CallRounds();
        for (int lane = 0; lane < 3; lane++) {
            Check.due("P23 no cells", x.sheet(0, lane, 0), 1);
            Check.faulted("P25 no cell", x, x.put(0, 0, 1), INDEX, 3);
            Check.faulted("P26 no cell", x, x.cell(0, 0, lane), LOST, 3);
            Check.faulted("P27 none of none", x, x.copy(0, 0, 0, 0, 0), 0, 0);
            Check.faulted("P27 one of none", x, x.copy(0, 0, 0, 0, 1), INDEX, 3);
            Check.faulted("P2 no codes", x, x.net(0, lane, 0, 0), -100, 0);
            Check.due("P24 an empty row is not nothing", x.lose(0), 1);
            Check.due("P24 now it is", x.lose(0), 0);
        }
    }

    private static void rowOfOneCell() {
        CallRounds x = new CallRounds();
        Check.due("P23 one cell", x.sheet(2, 1, 1), 1);
        Check.due("P26 0 at first", x.cell(2, 0, 1), 0);
        Check.due("P25", x.put(2, 0, 12), 1);
        Check.due("P26", x.cell(2, 0, 1), 12);
        Check.due("P25 no second", x.put(2, 1, 12), INDEX);
        Check.due("P26 no second", x.cell(2, 1, 1), LOST);
    }

    private static void rowOfSixtyCells() {
        for (int lane = 0; lane < 3; lane++) {
            CallRounds x = new CallRounds();
            Check.due("P23 60 cells", x.sheet(1, lane, 60), 1);
            for (int i = 0; i < 60; i++) Check.due("P26 0 at first", x.cell(1, i, lane), 0);
            for (int i = 0; i < 60; i++) Check.due("P25", x.put(1, i, i - 30), 1);
            for (int i = 0; i < 60; i++) Check.due("P26 each its own", x.cell(1, i, lane), i - 30);
            Check.due("P23 61 cells", x.sheet(1, lane, 61), -2);
            Check.due("P26 the row stays", x.cell(1, 59, lane), 29);
            Check.due("P23 a new row", x.sheet(1, lane, 60), 1);
            for (int i = 0; i < 60; i++) Check.due("P26 0 again", x.cell(1, i, lane), 0);
        }
    }

    private static void sheetsApart() {
        CallRounds x = new CallRounds();
        for (int k = 0; k < 4; k++) {
            x.sheet(k, k % 3, 2);
            x.put(k, 1, 10 + k);
        }
        for (int k = 0; k < 4; k++) Check.due("P26 each its own row", x.cell(k, 1, k % 3), 10 + k);
        Check.due("P24", x.lose(1), 1);
        Check.due("P26 the others stay", x.cell(0, 1, 0), 10);
        Check.due("P26 the others stay", x.cell(2, 1, 2), 12);
        Check.due("P26 the others stay", x.cell(3, 1, 0), 13);
        Check.faulted("P26 it has nothing", x, x.cell(1, 1, 1), LOST, 1);
        x.sheet(0, 2, 2);
        Check.faulted("P26 of another lane now", x, x.cell(0, 1, 0), LOST, 2);
        Check.due("P26 0 at first", x.cell(0, 1, 2), 0);
    }

    private static void cutToLanes() {
        int[] put = {127, 128, 255, 256, -128, -129, -256, 32767, 32768, 65535, 65536, -32768, -32769,
            Integer.MAX_VALUE, Integer.MIN_VALUE, 0x12345678};
        int[] bytes = {127, -128, -1, 0, -128, 127, 0, -1, 0, -1, 0, 0, -1, -1, 0, 0x78};
        int[] shorts = {127, 128, 255, 256, -128, -129, -256, 32767, -32768, -1, 0, -32768, 32767, -1, 0, 0x5678};
        CallRounds x = new CallRounds();
        for (int lane = 0; lane < 3; lane++) x.sheet(lane, lane, 2);
        for (int i = 0; i < put.length; i++) {
            for (int lane = 0; lane < 3; lane++) x.put(lane, 1, put[i]);
            Check.due("P25 " + put[i] + " cut to a byte", x.cell(0, 1, 0), bytes[i]);
            Check.due("P25 " + put[i] + " cut to a short", x.cell(1, 1, 1), shorts[i]);
            Check.due("P25 " + put[i] + " as an int", x.cell(2, 1, 2), put[i]);
            for (int lane = 0; lane < 3; lane++) Check.due("P25 the other cell stays", x.cell(lane, 0, lane), 0);
        }
    }

    private static void copyAllAndNone() {
        CallRounds x = new CallRounds();
        x.sheet(0, 2, 60);
        x.sheet(1, 2, 60);
        for (int i = 0; i < 60; i++) x.put(0, i, 1000 + i);
        Check.due("P27 none", x.copy(0, 60, 1, 60, 0), 0);
        Check.due("P26 nothing came", x.cell(1, 59, 2), 0);
        Check.due("P27 one, the last to the first", x.copy(0, 59, 1, 0, 1), 1);
        Check.due("P26 it came", x.cell(1, 0, 2), 1059);
        Check.due("P26 no more came", x.cell(1, 1, 2), 0);
        Check.due("P27 all", x.copy(0, 0, 1, 0, 60), 60);
        for (int i = 0; i < 60; i++) Check.due("P26 all came", x.cell(1, i, 2), 1000 + i);
        Check.due("P27 on by one, in the same", x.copy(1, 0, 1, 1, 59), 59);
        for (int i = 0; i < 60; i++) Check.due("P26 as they were", x.cell(1, i, 2), 1000 + Math.max(0, i - 1));
        Check.due("P27 back by two, in the same", x.copy(0, 2, 0, 0, 58), 58);
        for (int i = 0; i < 60; i++) Check.due("P26 as they were", x.cell(0, i, 2), 1000 + (i < 58 ? i + 2 : i));
        Check.due("P27 onto itself", x.copy(0, 0, 0, 0, 60), 60);
        Check.due("P26 as it was", x.cell(0, 57, 2), 1059);
    }

    /** 4, 128, 3972 ..: 31 times it and 4, and the seventh does not fit an int. */
    private static void traceWraps() {
        CallRounds x = Check.withCallCount("p1;p0;p", 1);
        long[] due = {4, 128, 3972, 123136, 3817220, 118333824, 3668348548L - (1L << 32), 2049655296};
        Check.due("P31 0 at first", x.trace(), 0);
        for (int i = 0; i < due.length; i++) {
            x.log(0);
            Check.due("P31 behind " + (i + 1), x.trace(), due[i]);
        }
        Check.due("P31 asking leaves it", x.trace(), due[due.length - 1]);
    }
}
