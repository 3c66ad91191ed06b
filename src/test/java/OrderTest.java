/**
 * Which refusal or FAULT comes first where several would be due: UNKNOWN, OUTSIDE, STATE, FULL,
 * and FAULTS as each call's line tells them. A method a promise whose line tells more than one.
 */
public final class OrderTest {
    private static final int UNKNOWN = -1, OUTSIDE = -2, STATE = -3, FULL = -4;
    private static final int NULL = -11, CAST = -12, INDEX = -13, SIZE = -14;
    private static final long LOST = Long.MIN_VALUE;

    public static void main(String[] args) {
        net();
        ofPerson();
        call();
        ofCall();
        may();
        runs();
        verdict();
        calls();
        keeps();
        best();
        whatOneKnows();
        bridge();
        mend();
        nets();
        within();
        sheet();
        put();
        cell();
        copy();
        as();
        Check.finish();
    }

    /** Sheet 0 has a text as bytes, sheet 1 two shorts, sheet 2 nothing, sheet 3 a row that is empty. */
    private static CallRounds withSheets() {
        CallRounds x = new CallRounds();
        x.sheet(0, 0, 3);
        x.put(0, 0, 'p');
        x.sheet(1, 1, 2);
        x.sheet(3, 0, 0);
        return x;
    }

    private static void net() {
        CallRounds x = withSheets();
        Check.faulted("P2 unknown, outside", x, x.net(4, 3, 0, 1), UNKNOWN, 0);
        Check.faulted("P2 unknown, size, index", x, x.net(-1, 0, -1, -1), UNKNOWN, 0);
        Check.faulted("P2 outside, null", x, x.net(2, 3, 0, 1), OUTSIDE, 0);
        Check.faulted("P2 outside, size", x, x.net(0, -1, 0, -1), OUTSIDE, 0);
        Check.faulted("P2 outside, index", x, x.net(0, 3, 4, 1), OUTSIDE, 0);
        Check.faulted("P2 outside, a text that is none", x, x.net(0, 3, 1, 1), OUTSIDE, 0);
        Check.faulted("P2 cast, size", x, x.net(0, 1, 0, -1), CAST, 2);
        Check.faulted("P2 cast, index", x, x.net(0, 2, 4, 1), CAST, 2);
        Check.faulted("P2 cast, size, index", x, x.net(1, 0, -1, -1), CAST, 2);
        Check.faulted("P2 cast, a text that is none", x, x.net(1, 2, 0, 1), CAST, 2);
        Check.faulted("P2 cast of a row that is empty, index", x, x.net(3, 1, 1, 0), CAST, 2);
        for (int lane = 0; lane < 3; lane++) {
            Check.faulted("P2 nothing is no cast, in lane " + lane, x, x.net(2, lane, 0, 0), NULL, 1);
            Check.faulted("P2 null, size, in lane " + lane, x, x.net(2, lane, 0, -1), NULL, 1);
            Check.faulted("P2 null, index, in lane " + lane, x, x.net(2, lane, -1, 1), NULL, 1);
        }
        Check.faulted("P2 size, index below 0", x, x.net(0, 0, -1, -1), SIZE, 4);
        Check.faulted("P2 size, index beyond", x, x.net(0, 0, 4, -1), SIZE, 4);
        Check.faulted("P2 index, a text that is none", x, x.net(0, 0, 1, 3), INDEX, 3);
        Check.faulted("P2 index, though a text is wrong ahead of it", x, x.net(1, 1, 0, 3), INDEX, 3);
        Check.faulted("P2 index, a text that ends too soon", x, x.net(0, 0, 4, 0), INDEX, 3);
        Check.faulted("P2 a text that is none", x, x.net(0, 0, 0, 2), -101, 0);
    }

    private static void ofPerson() {
        CallRounds x = Check.withNet("p1;p");
        Check.due("P3 unknown, outside", x.ofPerson(2, 6), UNKNOWN);
        Check.due("P3 unknown, outside", x.ofPerson(-1, -1), UNKNOWN);
        Check.due("P3 unknown, outside, of nobody", new CallRounds().ofPerson(0, 6), UNKNOWN);
    }

    private static void call() {
        CallRounds x = Check.withNet("p1;p;p");
        Check.due("P4 unknown, outside", x.call(3, 3), UNKNOWN);
        Check.due("P4 unknown, outside", x.call(-1, -1), UNKNOWN);
        Check.due("P4 unknown, outside, of nobody", new CallRounds().call(0, 0), UNKNOWN);
        CallRounds full = Check.withCallCount("p1;p;p", 12);
        Check.due("P4 unknown who rings, full", full.call(3, 0), UNKNOWN);
        Check.due("P4 unknown who is rung, full", full.call(0, 3), UNKNOWN);
        Check.due("P4 unknown, outside, full", full.call(3, 3), UNKNOWN);
        Check.due("P4 outside, full", full.call(0, 0), OUTSIDE);
        Check.due("P4 outside, full, of one without numbers", full.call(2, 2), OUTSIDE);
        Check.due("P4 state, full", full.call(0, 2), STATE);
        Check.due("P4 full alone", full.call(0, 1), FULL);
    }

    private static void ofCall() {
        CallRounds x = Check.withCallCount("p1;p", 1);
        Check.due("P5 unknown, outside", x.ofCall(1, 5), UNKNOWN);
        Check.due("P5 unknown, outside", x.ofCall(-1, -1), UNKNOWN);
    }

    private static void may() {
        CallRounds x = Check.withNet("p1;p");
        Check.due("P7 rule and person", x.may(4, 2), UNKNOWN);
        Check.due("P7 the rule alone", x.may(4, 0), UNKNOWN);
        Check.due("P7 the person alone", x.may(0, 2), UNKNOWN);
    }

    /** Whichever it is, a long's refusal is LOST. */
    private static void runs() {
        CallRounds none = new CallRounds();
        CallRounds x = Check.withNet("p1;p");
        Check.due("P8 unknown alone", x.runs(4, 0), LOST);
        Check.due("P8 outside alone", x.runs(0, 2), LOST);
        Check.due("P8 state alone", none.runs(0, 0), LOST);
        Check.due("P8 state alone, good ones", none.runs(3, 1), LOST);
        Check.due("P8 all three", none.runs(-1, -1), LOST);
    }

    private static void verdict() {
        Check.due("P9 unknown, state", new CallRounds().verdict(4), UNKNOWN);
        Check.due("P9 unknown, state", new CallRounds().verdict(-1), UNKNOWN);
        Check.due("P9 state alone", new CallRounds().verdict(0), STATE);
    }

    private static void calls() {
        CallRounds none = new CallRounds();
        Check.due("P10 unknown, outside, state", none.calls(4, 2), UNKNOWN);
        Check.due("P10 unknown, state", none.calls(-1, 0), UNKNOWN);
        Check.due("P10 outside, state", none.calls(0, 2), OUTSIDE);
        Check.due("P10 outside, state", none.calls(0, -1), OUTSIDE);
        Check.due("P10 state alone", none.calls(3, 1), STATE);
        CallRounds apart = Check.withNet("p;p");
        Check.due("P10 unknown, outside, no run is good", apart.calls(4, 2), UNKNOWN);
        Check.due("P10 outside, no run is good", apart.calls(0, 2), OUTSIDE);
    }

    private static void keeps() {
        CallRounds x = Check.withNet("p1;p;p");
        Check.due("P11 rule, both are one", x.keeps(4, 0, 0), UNKNOWN);
        Check.due("P11 rule, may not be", x.keeps(4, 1, 0), UNKNOWN);
        Check.due("P11 persons, both are one", x.keeps(0, 3, 3), UNKNOWN);
        Check.due("P11 who rings, may not be", x.keeps(0, 3, 0), UNKNOWN);
        Check.due("P11 who is rung, may not be", x.keeps(0, 1, 3), UNKNOWN);
        Check.due("P11 both are one, may not be", x.keeps(0, 2, 2), OUTSIDE);
        Check.due("P11 nobody, both are one", new CallRounds().keeps(0, 0, 0), UNKNOWN);
    }

    private static void best() {
        CallRounds none = new CallRounds();
        Check.due("P12 unknown, outside, state", none.best(-1, -1), UNKNOWN);
        Check.due("P12 unknown, state", none.best(4, 0), UNKNOWN);
        Check.due("P12 outside, state", none.best(0, 2), OUTSIDE);
        Check.due("P12 outside, state", none.best(0, -1), OUTSIDE);
        Check.due("P12 state alone", none.best(3, 1), STATE);
        CallRounds apart = Check.withNet("p;p");
        Check.due("P12 unknown, outside, no run is good", apart.best(4, 2), UNKNOWN);
        Check.due("P12 outside, no run is good", apart.best(0, 2), OUTSIDE);
        Check.due("P12 outside, all are experts", Check.withNet("p").best(0, 2), OUTSIDE);
    }

    private static void whatOneKnows() {
        CallRounds x = Check.withCallCount("p1;p0", 5);
        Check.due("P13 unknown, state", x.alike(2), UNKNOWN);
        Check.due("P13 unknown, state", x.alike(-1), UNKNOWN);
        Check.due("P14 unknown who, state", x.sure(2, 0, 0), UNKNOWN);
        Check.due("P14 unknown of whom, state", x.sure(0, 2, 0), UNKNOWN);
        Check.due("P14 unknown whose secret, state", x.sure(0, 0, 2), UNKNOWN);
        Check.due("P15 unknown who, state", x.known(2, 0), UNKNOWN);
        Check.due("P15 unknown of whom, state", x.known(0, 2), UNKNOWN);
        Check.due("P16 unknown, state", x.end(2), UNKNOWN);
    }

    private static void bridge() {
        Check.due("P18 unknown, state: nobody", new CallRounds().bridge(12), UNKNOWN);
        Check.due("P18 unknown, state: nobody", new CallRounds().bridge(-2), UNKNOWN);
        Check.due("P18 unknown, state: apart", Check.withNet("p;p").bridge(12), UNKNOWN);
        Check.due("P18 unknown, state: apart", Check.withNet("p;p").bridge(-2), UNKNOWN);
        Check.due("P18 state, there is no such one", Check.withNet("p;p").bridge(11), STATE);
        Check.due("P18 state, how many", Check.withNet("p;p").bridge(-1), STATE);
    }

    private static void mend() {
        CallRounds none = new CallRounds();
        Check.due("P20 unknown rule, state", none.mend(4, 0), UNKNOWN);
        Check.due("P20 unknown k, state", none.mend(0, 12), UNKNOWN);
        Check.due("P20 unknown both, state", none.mend(-1, -2), UNKNOWN);
        Check.due("P20 state, there is no such one", none.mend(0, 11), STATE);
        Check.due("P20 state, how many", none.mend(0, -1), STATE);
    }

    private static void nets() {
        CallRounds none = new CallRounds();
        Check.due("P21 unknown, outside n", none.nets(0, 4, 0), UNKNOWN);
        Check.due("P21 unknown, outside what", none.nets(1, -1, 4), UNKNOWN);
        Check.due("P21 unknown, both outside", none.nets(4, 4, -1), UNKNOWN);
        Check.due("P21 both outside", none.nets(4, 0, 4), OUTSIDE);
    }

    private static void within() {
        CallRounds none = new CallRounds();
        Check.due("P22 unknown rule, state", none.within(4, 0), UNKNOWN);
        Check.due("P22 unknown other, state", none.within(0, 4), UNKNOWN);
        Check.due("P22 unknown rule beside 2", none.within(-1, 2), UNKNOWN);
        Check.due("P22 unknown other beside 3", none.within(3, 4), UNKNOWN);
        Check.due("P22 outside, state", none.within(2, 3), OUTSIDE);
        Check.due("P22 outside, state", none.within(3, 2), OUTSIDE);
        Check.due("P22 both 2 is not outside", none.within(2, 2), STATE);
        Check.due("P22 both 3 is not outside", none.within(3, 3), STATE);
        Check.due("P22 1 and 2 is not outside", none.within(1, 2), STATE);
        Check.due("P22 3 and 0 is not outside", none.within(3, 0), STATE);
    }

    private static void sheet() {
        CallRounds x = withSheets();
        Check.faulted("P23 unknown, outside lane", x, x.sheet(4, 3, 1), UNKNOWN, 0);
        Check.faulted("P23 unknown, outside n", x, x.sheet(-1, 0, 61), UNKNOWN, 0);
        Check.faulted("P23 unknown, size", x, x.sheet(4, 0, -1), UNKNOWN, 0);
        Check.faulted("P23 outside lane, size", x, x.sheet(0, 3, -1), OUTSIDE, 0);
        Check.faulted("P23 outside lane, size", x, x.sheet(0, -1, -1), OUTSIDE, 0);
        Check.faulted("P23 both outside", x, x.sheet(0, 3, 61), OUTSIDE, 0);
        Check.faulted("P23 size alone", x, x.sheet(0, 0, -1), SIZE, 4);
    }

    private static void put() {
        CallRounds x = withSheets();
        Check.faulted("P25 unknown, no cell", x, x.put(4, -1, 0), UNKNOWN, 0);
        Check.faulted("P25 null, index below 0", x, x.put(2, -1, 0), NULL, 1);
        Check.faulted("P25 null, index beyond", x, x.put(2, 60, 0), NULL, 1);
        Check.faulted("P25 index alone", x, x.put(3, 0, 0), INDEX, 3);
    }

    private static void cell() {
        CallRounds x = withSheets();
        Check.faulted("P26 unknown, outside", x, x.cell(4, 0, 3), LOST, 0);
        Check.faulted("P26 unknown, index", x, x.cell(4, -1, 0), LOST, 0);
        Check.faulted("P26 outside, null", x, x.cell(2, 0, 3), LOST, 0);
        Check.faulted("P26 outside, index", x, x.cell(0, 3, -1), LOST, 0);
        Check.faulted("P26 cast, index beyond", x, x.cell(0, 3, 1), LOST, 2);
        Check.faulted("P26 cast, index below 0", x, x.cell(1, -1, 0), LOST, 2);
        Check.faulted("P26 cast of a row that is empty, index", x, x.cell(3, 0, 2), LOST, 2);
        for (int lane = 0; lane < 3; lane++) {
            Check.faulted("P26 nothing is no cast, in lane " + lane, x, x.cell(2, 0, lane), LOST, 1);
            Check.faulted("P26 null, index, in lane " + lane, x, x.cell(2, -1, lane), LOST, 1);
        }
        Check.faulted("P26 index alone", x, x.cell(1, 2, 1), LOST, 3);
    }

    private static void copy() {
        CallRounds x = withSheets();
        Check.faulted("P27 unknown, null of the other", x, x.copy(4, 0, 2, 0, 0), UNKNOWN, 0);
        Check.faulted("P27 null of the first, unknown other", x, x.copy(2, 0, 4, 0, 0), UNKNOWN, 0);
        Check.faulted("P27 unknown, index", x, x.copy(0, -1, -1, -1, -1), UNKNOWN, 0);
        Check.faulted("P27 both unknown", x, x.copy(-1, 0, 4, 0, 0), UNKNOWN, 0);
        Check.faulted("P27 null of the first, index", x, x.copy(2, -1, 0, -1, -1), NULL, 1);
        Check.faulted("P27 null of the other, index", x, x.copy(0, -1, 2, -1, -1), NULL, 1);
        Check.faulted("P27 null of the other, index of the first", x, x.copy(0, 4, 2, 0, 0), NULL, 1);
        Check.faulted("P27 null of both", x, x.copy(2, 0, 2, 0, 0), NULL, 1);
        Check.faulted("P27 cast, index i", x, x.copy(0, 4, 1, 0, 0), CAST, 2);
        Check.faulted("P27 cast, index j", x, x.copy(1, 0, 0, -1, 0), CAST, 2);
        Check.faulted("P27 cast, index n", x, x.copy(0, 0, 1, 0, -1), CAST, 2);
        Check.faulted("P27 cast, no cell taken", x, x.copy(0, 0, 1, 0, 0), CAST, 2);
        Check.faulted("P27 n below 0 is index, not size", x, x.copy(0, 0, 0, 0, -1), INDEX, 3);
    }

    private static void as() {
        CallRounds x = Check.withCallCount("p1;p0;p", 2);
        Check.faulted("P30 unknown, outside", x, x.as(2, 3), UNKNOWN, 0);
        Check.faulted("P30 unknown, outside", x, x.as(-1, -1), UNKNOWN, 0);
        Check.faulted("P30 outside, none of that kind", x, x.as(1, 3), OUTSIDE, 0);
        Check.faulted("P30 cast alone", x, x.as(1, 2), CAST, 2);
    }
}
