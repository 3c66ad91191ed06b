/**
 * Each number that a call takes: the last one that is allowed and the first that is not, at both
 * ends. A method a promise, in the document's order.
 */
public final class RangeTest {
    private static final int UNKNOWN = -1, OUTSIDE = -2, NONE = -9, INDEX = -13, SIZE = -14;
    private static final long LOST = Long.MIN_VALUE;

    public static void main(String[] args) {
        net();
        netCells();
        ofPerson();
        call();
        ofCall();
        may();
        runs();
        verdict();
        calls();
        keeps();
        best();
        alike();
        sure();
        known();
        end();
        bridge();
        mend();
        nets();
        within();
        sheet();
        lose();
        put();
        cell();
        copySheets();
        copyCells();
        tellAndLog();
        as();
        many();
        Check.finish();
    }

    /** Sheets 0 .. 3, each with a text of one person, as bytes, shorts, ints, ints. */
    private static CallRounds withTexts() {
        CallRounds x = new CallRounds();
        for (int k = 0; k < 4; k++) {
            x.sheet(k, Math.min(k, 2), 3);
            x.put(k, 0, 'p');
            x.put(k, 1, ';');
            x.put(k, 2, 'p');
        }
        return x;
    }

    private static void net() {
        Check.below("P2 sheet", 0, 2, UNKNOWN, k -> withTexts().net(k, 0, 0, 3));
        Check.above("P2 sheet", 3, 2, UNKNOWN, k -> withTexts().net(k, 2, 0, 3));
        Check.below("P2 lane", 0, 2, OUTSIDE, lane -> withTexts().net(0, lane, 0, 3));
        Check.above("P2 lane", 2, 2, OUTSIDE, lane -> withTexts().net(3, lane, 0, 3));
        Check.due("P2 lane 1 is one, too", withTexts().net(1, 1, 0, 3), 2);
    }

    private static void netCells() {
        Check.range("P2 i, a cell taken", 0, 1, 2, 1, INDEX, i -> withTexts().net(0, 0, i, 1));
        Check.range("P2 i, no cell taken", 0, -100, 3, -100, INDEX, i -> withTexts().net(0, 0, i, 0));
        Check.below("P2 n", 0, -100, SIZE, n -> withTexts().net(0, 0, 0, n));
        Check.above("P2 n from 0 on", 3, 2, INDEX, n -> withTexts().net(0, 0, 0, n));
        Check.above("P2 n from 2 on", 1, 1, INDEX, n -> withTexts().net(0, 0, 2, n));
        Check.above("P2 n from 3 on", 0, -100, INDEX, n -> withTexts().net(0, 0, 3, n));
        CallRounds none = new CallRounds();
        none.sheet(0, 0, 0);
        Check.range("P2 i of an empty row", 0, -100, 0, -100, INDEX, i -> none.net(0, 0, i, 0));
        Check.above("P2 n of an empty row", 0, -100, INDEX, n -> none.net(0, 0, 0, n));
    }

    private static void ofPerson() {
        for (int n = 1; n <= 4; n++) {
            CallRounds x = Check.withNet(Check.WHOLE_NETS[n]);
            Check.range("P3 p of " + n, 0, 1, n - 1, 1 << n - 1, UNKNOWN, p -> x.ofPerson(p, 0));
            Check.range("P3 what of " + n, 0, 1, 5, 1, OUTSIDE, what -> x.ofPerson(0, what));
        }
        Check.due("P3 p of nobody", new CallRounds().ofPerson(0, 0), UNKNOWN);
    }

    private static void call() {
        for (int n = 2; n <= 4; n++) {
            String text = Check.WHOLE_NETS[n];
            int last = n - 1;
            Check.below("P4 p of " + n, 0, 0, UNKNOWN, p -> Check.withNet(text).call(p, last));
            Check.above("P4 p of " + n, last, 0, UNKNOWN, p -> Check.withNet(text).call(p, 0));
            Check.below("P4 q of " + n, 0, 0, UNKNOWN, q -> Check.withNet(text).call(last, q));
            Check.above("P4 q of " + n, last, 0, UNKNOWN, q -> Check.withNet(text).call(0, q));
        }
        Check.due("P4 p of nobody", new CallRounds().call(0, 1), UNKNOWN);
        Check.due("P4 q of one alone", Check.withNet("p").call(0, 1), UNKNOWN);
    }

    private static void ofCall() {
        for (int count = 1; count <= 12; count++) {
            CallRounds x = Check.withCallCount("p1;p0", count);
            int last = count - 1;
            Check.range("P5 c of " + count, 0, 0, last, last % 2, UNKNOWN, c -> x.ofCall(c, 1));
            Check.range("P5 what", 0, 2, 4, 1, OUTSIDE, what -> x.ofCall(0, what));
        }
        Check.due("P5 c of none", Check.withNet("p1;p0").ofCall(0, 1), UNKNOWN);
    }

    private static void may() {
        for (int n = 1; n <= 4; n++) {
            CallRounds x = Check.withNet(Check.WHOLE_NETS[n]);
            int everybody = (1 << n) - 1;
            int last = n - 1;
            Check.range("P7 rule of " + n, 0, everybody & ~1, 3, everybody & ~1, UNKNOWN, rule -> x.may(rule, 0));
            Check.range("P7 p of " + n, 0, everybody & ~1, last, everybody & ~(1 << last), UNKNOWN, p -> x.may(0, p));
        }
        Check.due("P7 p of nobody", new CallRounds().may(0, 0), UNKNOWN);
    }

    private static void runs() {
        CallRounds x = Check.withNet("p1;p2;p");
        Check.range("P8 rule", 0, x.runs(0, 1), 3, x.runs(3, 1), LOST, rule -> x.runs(rule, 1));
        Check.range("P8 what", 0, 3, 1, 2, LOST, what -> x.runs(1, what));
    }

    private static void verdict() {
        CallRounds x = Check.withNet("p1;p2;p");
        Check.range("P9 rule", 0, 2, 3, 2, UNKNOWN, rule -> x.verdict(rule));
    }

    private static void calls() {
        CallRounds x = Check.withNet("p123;p023;p013;p012");
        Check.range("P10 rule", 0, 4, 3, 4, UNKNOWN, rule -> x.calls(rule, 0));
        Check.range("P10 what", 0, 4, 1, 6, OUTSIDE, what -> x.calls(0, what));
    }

    private static void keeps() {
        for (int n = 2; n <= 4; n++) {
            CallRounds x = Check.withNet(Check.WHOLE_NETS[n]);
            int last = n - 1;
            Check.range("P11 rule", 0, 2, 3, 2, UNKNOWN, rule -> x.keeps(rule, 0, 1));
            Check.below("P11 p of " + n, 0, 2, UNKNOWN, p -> x.keeps(0, p, last));
            Check.above("P11 p of " + n, last, 2, UNKNOWN, p -> x.keeps(0, p, 0));
            Check.below("P11 q of " + n, 0, 2, UNKNOWN, q -> x.keeps(0, last, q));
            Check.above("P11 q of " + n, last, 2, UNKNOWN, q -> x.keeps(0, 0, q));
        }
        Check.due("P11 q of one alone", Check.withNet("p").keeps(0, 0, 1), UNKNOWN);
    }

    private static void best() {
        CallRounds x = Check.withNet("p;p0");
        Check.range("P12 rule", 0, 1, 3, 1, UNKNOWN, rule -> x.best(rule, 0));
        Check.range("P12 what", 0, 1, 1, 0, OUTSIDE, what -> x.best(0, what));
    }

    private static void alike() {
        for (int n = 1; n <= 4; n++) {
            CallRounds x = Check.withNet(Check.WHOLE_NETS[n]);
            Check.range("P13 p of " + n, 0, 1, n - 1, 1, UNKNOWN, p -> x.alike(p));
        }
    }

    private static void sure() {
        for (int n = 1; n <= 4; n++) {
            CallRounds x = Check.withNet(Check.WHOLE_NETS[n]);
            int last = n - 1;
            int same = n == 1 ? 1 : 0;
            Check.range("P14 p of " + n, 0, 1, last, 1, UNKNOWN, p -> x.sure(p, 0, 0));
            Check.range("P14 q of " + n, 0, 1, last, same, UNKNOWN, q -> x.sure(0, q, 0));
            Check.range("P14 whose secret of " + n, 0, same, last, 1, UNKNOWN, secret -> x.sure(0, last, secret));
        }
    }

    private static void known() {
        for (int n = 1; n <= 4; n++) {
            CallRounds x = Check.withNet(Check.WHOLE_NETS[n]);
            int last = n - 1;
            Check.range("P15 p of " + n, 0, 1 << last, last, 1 << last, UNKNOWN, p -> x.known(p, last));
            Check.range("P15 q of " + n, 0, 1, last, 1 << last, UNKNOWN, q -> x.known(last, q));
        }
    }

    private static void end() {
        for (int n = 1; n <= 4; n++) {
            CallRounds x = Check.withNet(Check.WHOLE_NETS[n]);
            int alone = n == 1 ? 1 : 0;
            Check.range("P16 p of " + n, 0, alone, n - 1, alone, UNKNOWN, p -> x.end(p));
        }
    }

    private static void bridge() {
        CallRounds x = Check.withNet("p1;p2;p3;p");
        Check.range("P18 k", -1, 3, 11, NONE, UNKNOWN, k -> x.bridge(k));
    }

    private static void mend() {
        CallRounds x = Check.withNet("p1;p2;p");
        Check.range("P20 rule", 0, 4, 3, 4, UNKNOWN, rule -> x.mend(rule, -1));
        Check.range("P20 k", -1, 2, 11, NONE, UNKNOWN, k -> x.mend(1, k));
    }

    private static void nets() {
        CallRounds x = new CallRounds();
        Check.range("P21 n", 1, 1, 3, 54, OUTSIDE, n -> x.nets(n, 0, 3));
        Check.range("P21 rule", 0, 54, 3, 54, UNKNOWN, rule -> x.nets(3, rule, 2));
        Check.range("P21 what", 0, 0, 3, 3, OUTSIDE, what -> x.nets(2, 0, what));
    }

    private static void within() {
        CallRounds x = Check.withNet("p1;p2;p");
        Check.range("P22 rule", 0, 1, 3, 1, UNKNOWN, rule -> x.within(rule, 0));
        Check.range("P22 other", 0, 1, 3, 0, UNKNOWN, other -> x.within(1, other));
    }

    private static void sheet() {
        CallRounds x = new CallRounds();
        Check.range("P23 k", 0, 1, 3, 1, UNKNOWN, k -> x.sheet(k, 0, 1));
        Check.range("P23 lane", 0, 1, 2, 1, OUTSIDE, lane -> x.sheet(0, lane, 1));
        Check.below("P23 n", 0, 1, SIZE, n -> x.sheet(0, 0, n));
        for (int lane = 0; lane < 3; lane++) {
            int of = lane;
            Check.above("P23 n of lane " + of, 60, 1, OUTSIDE, n -> x.sheet(0, of, n));
        }
    }

    private static void lose() {
        CallRounds x = withTexts();
        Check.range("P24 k", 0, 1, 3, 1, UNKNOWN, k -> x.lose(k));
        Check.range("P24 k of nothing", 0, 0, 3, 0, UNKNOWN, k -> x.lose(k));
    }

    private static void put() {
        CallRounds x = withTexts();
        Check.range("P25 k", 0, 1, 3, 1, UNKNOWN, k -> x.put(k, 0, 7));
        for (int n : new int[] {1, 2, 59, 60}) {
            for (int lane = 0; lane < 3; lane++) {
                x.sheet(0, lane, n);
                Check.range("P25 i of " + n, 0, 1, n - 1, 1, INDEX, i -> x.put(0, i, 7));
            }
        }
        x.sheet(0, 0, 0);
        Check.faulted("P25 i of an empty row", x, x.put(0, 0, 7), INDEX, 3);
    }

    private static void cell() {
        CallRounds x = withTexts();
        Check.below("P26 k", 0, 'p', LOST, k -> x.cell(k, 0, 0));
        Check.above("P26 k", 3, 'p', LOST, k -> x.cell(k, 0, 2));
        Check.below("P26 lane", 0, 'p', LOST, lane -> x.cell(0, 0, lane));
        Check.above("P26 lane", 2, 'p', LOST, lane -> x.cell(3, 0, lane));
        Check.faulted("P26 a lane that is none is no fault", x, x.cell(0, 0, 3), LOST, 0);
        Check.faulted("P26 a sheet that is none is no fault", x, x.cell(4, 0, 0), LOST, 0);
        for (int n : new int[] {1, 2, 59, 60}) {
            x.sheet(0, 1, n);
            x.put(0, n - 1, 9);
            x.put(0, 0, 8);
            Check.range("P26 i of " + n, 0, 8, n - 1, n == 1 ? 8 : 9, LOST, i -> x.cell(0, i, 1));
            Check.faulted("P26 beyond " + n, x, x.cell(0, n, 1), LOST, 3);
            Check.faulted("P26 below 0", x, x.cell(0, -1, 1), LOST, 3);
        }
        x.sheet(0, 1, 0);
        Check.faulted("P26 i of an empty row", x, x.cell(0, 0, 1), LOST, 3);
    }

    private static void copySheets() {
        CallRounds x = new CallRounds();
        for (int k = 0; k < 4; k++) x.sheet(k, 0, 3);
        Check.range("P27 k", 0, 1, 3, 1, UNKNOWN, k -> x.copy(k, 0, 1, 0, 1));
        Check.range("P27 other", 0, 1, 3, 1, UNKNOWN, other -> x.copy(1, 0, other, 0, 1));
    }

    private static void copyCells() {
        CallRounds x = new CallRounds();
        x.sheet(0, 2, 4);
        x.sheet(1, 2, 60);
        Check.range("P27 i, two of 4", 0, 2, 2, 2, INDEX, i -> x.copy(0, i, 1, 0, 2));
        Check.range("P27 i, none of 4", 0, 0, 4, 0, INDEX, i -> x.copy(0, i, 1, 0, 0));
        Check.range("P27 j, two of 60", 0, 2, 58, 2, INDEX, j -> x.copy(0, 0, 1, j, 2));
        Check.range("P27 j, none of 60", 0, 0, 60, 0, INDEX, j -> x.copy(0, 0, 1, j, 0));
        Check.range("P27 n, the first is shorter", 0, 0, 4, 4, INDEX, n -> x.copy(0, 0, 1, 0, n));
        Check.range("P27 n, the other is shorter", 0, 0, 4, 4, INDEX, n -> x.copy(1, 0, 0, 0, n));
        Check.range("P27 n, from the first's last on", 0, 0, 1, 1, INDEX, n -> x.copy(0, 3, 1, 0, n));
        Check.range("P27 n, to the other's last on", 0, 0, 1, 1, INDEX, n -> x.copy(1, 0, 0, 3, n));
        Check.range("P27 n, from the first's end on", 0, 0, 0, 0, INDEX, n -> x.copy(0, 4, 1, 0, n));
        Check.range("P27 n, to the other's end on", 0, 0, 0, 0, INDEX, n -> x.copy(1, 0, 0, 4, n));
        Check.range("P27 n, a whole row to itself", 0, 0, 60, 60, INDEX, n -> x.copy(1, 0, 1, 0, n));
        x.sheet(2, 2, 0);
        Check.range("P27 n, an empty row", 0, 0, 0, 0, INDEX, n -> x.copy(2, 0, 2, 0, n));
    }

    private static void tellAndLog() {
        for (int count = 1; count <= 12; count++) {
            CallRounds x = Check.withCallCount("p1;p0;p", count);
            int last = count - 1;
            int dueLast = count == 1 ? 201 : last % 2 == 0 ? 1 : 10;
            Check.range("P28 c of " + count, 0, 201, last, dueLast, UNKNOWN, c -> x.tell(c));
            Check.range("P29 c of " + count, 0, 0, last, last, UNKNOWN, c -> x.log(c));
        }
        CallRounds none = Check.withNet("p1;p0;p");
        Check.due("P28 c of none", none.tell(0), UNKNOWN);
        Check.due("P29 c of none", none.log(0), UNKNOWN);
    }

    private static void as() {
        for (int count = 1; count <= 12; count++) {
            CallRounds x = Check.withCallCount("p1;p0", count);
            Check.range("P30 c of " + count, 0, 1, count - 1, 1, UNKNOWN, c -> x.as(c, 0));
            Check.range("P30 kind", 0, 1, 2, 1, OUTSIDE, kind -> x.as(0, kind));
        }
        Check.due("P30 c of none", Check.withNet("p1;p0").as(0, 0), UNKNOWN);
    }

    private static void many() {
        CallRounds x = Check.withCallCount("p1;p0", 3);
        Check.range("P33 what", 0, 2, 3, 2, OUTSIDE, what -> x.many(what));
    }
}
