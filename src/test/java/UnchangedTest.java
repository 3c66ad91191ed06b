import java.util.ArrayList;
import java.util.List;
import java.util.function.Supplier;
import java.util.function.ToLongFunction;

/**
 * Refused calls and FAULTS change nothing (but fault(), of a call that names FAULTS), and neither
 * does a question. Each is put to one of two objects that are alike, and both are looked at then.
 */
public final class UnchangedTest {
    private static final int UNKNOWN = -1, OUTSIDE = -2, STATE = -3, FULL = -4;
    private static final int NULL = -11, CAST = -12, INDEX = -13, SIZE = -14;
    private static final long LOST = Long.MIN_VALUE;
    /** The FAULT that each object comes with, so that a call which should leave it is seen to. */
    private static final int EARLIER = 4;

    public static void main(String[] args) {
        refusedByNobody();
        refusedNets();
        textsThatAreNone();
        refusedCalls();
        full();
        refusedRulesAndRuns();
        moreThanFourCalls();
        refusedNetQuestions();
        refusedSheets();
        refusedCopies();
        refusedTelling();
        questions();
        Check.finish();
    }

    /** Three persons, a NEWS and a WHOLE, 1 not having 2's number; sheets of bytes, of shorts, nothing, and a text of ints. */
    private static CallRounds busy() {
        CallRounds x = Check.withCalls("p1;p;p0", "01 20");
        x.sheet(0, 0, 3);
        x.put(0, 0, 5);
        x.put(0, 2, -7);
        x.sheet(1, 1, 2);
        x.put(1, 1, 300);
        x.tell(1);
        x.log(0);
        x.sheet(2, 0, -1);
        return x;
    }

    /** As busy(), with as many calls as there may be. */
    private static CallRounds filled() {
        CallRounds x = busy();
        while (x.many(1) < 12) x.call(0, 1);
        return x;
    }

    private static CallRounds nobody() {
        CallRounds x = new CallRounds();
        x.sheet(0, 2, 1);
        x.put(0, 0, 'q');
        x.sheet(2, 0, -1);
        return x;
    }

    private static void refusedByNobody() {
        keeps("P2", UnchangedTest::nobody, x -> x.net(0, 2, 0, 1), -100, 0);
        stays("P3", UnchangedTest::nobody, x -> x.ofPerson(0, 0), UNKNOWN);
        stays("P4", UnchangedTest::nobody, x -> x.call(0, 1), UNKNOWN);
        stays("P5", UnchangedTest::nobody, x -> x.ofCall(0, 0), UNKNOWN);
        stays("P6", UnchangedTest::nobody, x -> x.back(), STATE);
        stays("P7", UnchangedTest::nobody, x -> x.may(0, 0), UNKNOWN);
        stays("P8", UnchangedTest::nobody, x -> x.runs(0, 0), LOST);
        stays("P9", UnchangedTest::nobody, x -> x.verdict(0), STATE);
        stays("P10", UnchangedTest::nobody, x -> x.calls(0, 0), STATE);
        stays("P11", UnchangedTest::nobody, x -> x.keeps(0, 0, 1), UNKNOWN);
        stays("P12", UnchangedTest::nobody, x -> x.best(0, 0), STATE);
        stays("P13", UnchangedTest::nobody, x -> x.alike(0), UNKNOWN);
        stays("P14", UnchangedTest::nobody, x -> x.sure(0, 0, 0), UNKNOWN);
        stays("P15", UnchangedTest::nobody, x -> x.known(0, 0), UNKNOWN);
        stays("P16", UnchangedTest::nobody, x -> x.end(0), UNKNOWN);
        stays("P17", UnchangedTest::nobody, x -> x.joined(), STATE);
        stays("P18", UnchangedTest::nobody, x -> x.bridge(-1), STATE);
        stays("P19", UnchangedTest::nobody, x -> x.sun(), STATE);
        stays("P20", UnchangedTest::nobody, x -> x.mend(0, -1), STATE);
        stays("P22", UnchangedTest::nobody, x -> x.within(0, 1), STATE);
        stays("P28", UnchangedTest::nobody, x -> x.tell(0), UNKNOWN);
        stays("P29", UnchangedTest::nobody, x -> x.log(0), UNKNOWN);
        keeps("P30", UnchangedTest::nobody, x -> x.as(0, 0), UNKNOWN, 0);
    }

    private static void refusedNets() {
        keeps("P2 unknown", UnchangedTest::busy, x -> x.net(4, 2, 0, 7), UNKNOWN, 0);
        keeps("P2 outside", UnchangedTest::busy, x -> x.net(3, 3, 0, 7), OUTSIDE, 0);
        keeps("P2 cast", UnchangedTest::busy, x -> x.net(3, 1, 0, 7), CAST, 2);
        keeps("P2 null", UnchangedTest::busy, x -> x.net(2, 2, 0, 7), NULL, 1);
        keeps("P2 size", UnchangedTest::busy, x -> x.net(3, 2, 0, -1), SIZE, 4);
        keeps("P2 index", UnchangedTest::busy, x -> x.net(3, 2, 0, 8), INDEX, 3);
    }

    /** Sheet 3 has p1;p;p0: some parts of it are no text. */
    private static void textsThatAreNone() {
        keeps("P2 no codes", UnchangedTest::busy, x -> x.net(3, 2, 0, 0), -100, 0);
        keeps("P2 wrong at once", UnchangedTest::busy, x -> x.net(3, 2, 2, 5), -100, 0);
        keeps("P2 ends too soon", UnchangedTest::busy, x -> x.net(3, 2, 0, 5), -105, 0);
        keeps("P2 a person that there is not", UnchangedTest::busy, x -> x.net(3, 2, 0, 2), -101, 0);
        keeps("P2 none of it is a code", UnchangedTest::busy, x -> x.net(0, 0, 0, 3), -100, 0);
    }

    private static void refusedCalls() {
        stays("P3 unknown", UnchangedTest::busy, x -> x.ofPerson(3, 0), UNKNOWN);
        stays("P3 outside", UnchangedTest::busy, x -> x.ofPerson(0, 6), OUTSIDE);
        stays("P4 unknown who rings", UnchangedTest::busy, x -> x.call(3, 0), UNKNOWN);
        stays("P4 unknown who is rung", UnchangedTest::busy, x -> x.call(0, 3), UNKNOWN);
        stays("P4 outside", UnchangedTest::busy, x -> x.call(1, 1), OUTSIDE);
        stays("P4 state", UnchangedTest::busy, x -> x.call(1, 2), STATE);
        stays("P5 unknown", UnchangedTest::busy, x -> x.ofCall(2, 0), UNKNOWN);
        stays("P5 outside", UnchangedTest::busy, x -> x.ofCall(0, 5), OUTSIDE);
        stays("P6 state", () -> Check.withNet("p1;p0"), 0, x -> x.back(), STATE);
    }

    private static void full() {
        stays("P4 full", UnchangedTest::filled, x -> x.call(0, 1), FULL);
        stays("P4 full, the other way", UnchangedTest::filled, x -> x.call(1, 0), FULL);
        stays("P4 outside where it is full", UnchangedTest::filled, x -> x.call(0, 0), OUTSIDE);
        stays("P5 unknown where it is full", UnchangedTest::filled, x -> x.ofCall(12, 0), UNKNOWN);
    }

    private static void refusedRulesAndRuns() {
        stays("P7 rule", UnchangedTest::busy, x -> x.may(4, 0), UNKNOWN);
        stays("P7 person", UnchangedTest::busy, x -> x.may(0, 3), UNKNOWN);
        stays("P8 unknown", UnchangedTest::busy, x -> x.runs(4, 0), LOST);
        stays("P8 outside", UnchangedTest::busy, x -> x.runs(0, 2), LOST);
        stays("P9 unknown", UnchangedTest::busy, x -> x.verdict(4), UNKNOWN);
        stays("P10 unknown", UnchangedTest::busy, x -> x.calls(4, 0), UNKNOWN);
        stays("P10 outside", UnchangedTest::busy, x -> x.calls(0, 2), OUTSIDE);
        stays("P11 unknown", UnchangedTest::busy, x -> x.keeps(4, 0, 1), UNKNOWN);
        stays("P11 outside", UnchangedTest::busy, x -> x.keeps(0, 1, 1), OUTSIDE);
        stays("P11 state", UnchangedTest::busy, x -> x.keeps(0, 1, 2), STATE);
        stays("P12 unknown", UnchangedTest::busy, x -> x.best(4, 0), UNKNOWN);
        stays("P12 outside", UnchangedTest::busy, x -> x.best(0, 2), OUTSIDE);
    }

    private static void moreThanFourCalls() {
        stays("P13 unknown", UnchangedTest::busy, x -> x.alike(3), UNKNOWN);
        stays("P14 unknown", UnchangedTest::busy, x -> x.sure(0, 1, 3), UNKNOWN);
        stays("P15 unknown", UnchangedTest::busy, x -> x.known(0, 3), UNKNOWN);
        stays("P16 unknown", UnchangedTest::busy, x -> x.end(3), UNKNOWN);
        stays("P13 state", UnchangedTest::filled, x -> x.alike(0), STATE);
        stays("P14 state", UnchangedTest::filled, x -> x.sure(0, 1, 2), STATE);
        stays("P15 state", UnchangedTest::filled, x -> x.known(0, 1), STATE);
        stays("P16 state", UnchangedTest::filled, x -> x.end(0), STATE);
    }

    private static void refusedNetQuestions() {
        stays("P18 unknown", UnchangedTest::busy, x -> x.bridge(12), UNKNOWN);
        stays("P18 state", () -> Check.withCalls("p1;p;p", "01"), 0, x -> x.bridge(-1), STATE);
        stays("P20 unknown rule", UnchangedTest::busy, x -> x.mend(4, 0), UNKNOWN);
        stays("P20 unknown k", UnchangedTest::busy, x -> x.mend(0, 12), UNKNOWN);
        stays("P21 unknown", UnchangedTest::busy, x -> x.nets(2, 4, 3), UNKNOWN);
        stays("P21 outside n", UnchangedTest::busy, x -> x.nets(4, 0, 3), OUTSIDE);
        stays("P21 outside what", UnchangedTest::busy, x -> x.nets(2, 0, 4), OUTSIDE);
        stays("P22 unknown", UnchangedTest::busy, x -> x.within(0, 4), UNKNOWN);
        stays("P22 outside", UnchangedTest::busy, x -> x.within(2, 3), OUTSIDE);
        stays("P33 outside", UnchangedTest::busy, x -> x.many(4), OUTSIDE);
    }

    private static void refusedSheets() {
        keeps("P23 unknown", UnchangedTest::busy, x -> x.sheet(4, 0, 1), UNKNOWN, 0);
        keeps("P23 outside lane", UnchangedTest::busy, x -> x.sheet(0, 3, 1), OUTSIDE, 0);
        keeps("P23 outside n", UnchangedTest::busy, x -> x.sheet(0, 0, 61), OUTSIDE, 0);
        keeps("P23 size", UnchangedTest::busy, x -> x.sheet(0, 2, -1), SIZE, 4);
        keeps("P23 size of a sheet with nothing", UnchangedTest::busy, x -> x.sheet(2, 2, -1), SIZE, 4);
        stays("P24 unknown", UnchangedTest::busy, x -> x.lose(4), UNKNOWN);
        stays("P24 it had nothing", UnchangedTest::busy, x -> x.lose(2), 0);
        keeps("P25 unknown", UnchangedTest::busy, x -> x.put(-1, 0, 9), UNKNOWN, 0);
        keeps("P25 null", UnchangedTest::busy, x -> x.put(2, 0, 9), NULL, 1);
        keeps("P25 index beyond", UnchangedTest::busy, x -> x.put(0, 3, 9), INDEX, 3);
        keeps("P25 index below 0", UnchangedTest::busy, x -> x.put(0, -1, 9), INDEX, 3);
        keeps("P26 unknown", UnchangedTest::busy, x -> x.cell(4, 0, 0), LOST, 0);
        keeps("P26 outside", UnchangedTest::busy, x -> x.cell(0, 0, 3), LOST, 0);
        keeps("P26 cast", UnchangedTest::busy, x -> x.cell(0, 0, 1), LOST, 2);
        keeps("P26 null", UnchangedTest::busy, x -> x.cell(2, 0, 1), LOST, 1);
        keeps("P26 index", UnchangedTest::busy, x -> x.cell(0, 3, 0), LOST, 3);
    }

    /** Part of what is asked for could go in some of these: nothing of it does. */
    private static void refusedCopies() {
        keeps("P27 unknown", UnchangedTest::busy, x -> x.copy(0, 0, 4, 0, 1), UNKNOWN, 0);
        keeps("P27 null, the first", UnchangedTest::busy, x -> x.copy(2, 0, 0, 0, 1), NULL, 1);
        keeps("P27 null, the other", UnchangedTest::busy, x -> x.copy(0, 0, 2, 0, 1), NULL, 1);
        keeps("P27 cast", UnchangedTest::busy, x -> x.copy(0, 0, 1, 0, 1), CAST, 2);
        keeps("P27 index, beyond the other's end", UnchangedTest::busy, x -> x.copy(0, 0, 0, 1, 3), INDEX, 3);
        keeps("P27 index, beyond the first's end", UnchangedTest::busy, x -> x.copy(0, 2, 0, 0, 2), INDEX, 3);
        keeps("P27 index, i below 0", UnchangedTest::busy, x -> x.copy(0, -1, 0, 0, 2), INDEX, 3);
        keeps("P27 index, j below 0", UnchangedTest::busy, x -> x.copy(0, 0, 0, -1, 2), INDEX, 3);
        keeps("P27 index, n below 0", UnchangedTest::busy, x -> x.copy(0, 0, 0, 1, -1), INDEX, 3);
        keeps("P27 none are taken", UnchangedTest::busy, x -> x.copy(0, 0, 0, 1, 0), 0, 0);
    }

    private static void refusedTelling() {
        for (int c : new int[] {-1, 2, 12}) {
            stays("P28 unknown " + c, UnchangedTest::busy, x -> x.tell(c), UNKNOWN);
            stays("P29 unknown " + c, UnchangedTest::busy, x -> x.log(c), UNKNOWN);
            keeps("P30 unknown " + c, UnchangedTest::busy, x -> x.as(c, 0), UNKNOWN, 0);
        }
        stays("P28 unknown where it is full", UnchangedTest::filled, x -> x.tell(12), UNKNOWN);
        stays("P29 unknown where it is full", UnchangedTest::filled, x -> x.log(12), UNKNOWN);
        keeps("P30 outside", UnchangedTest::busy, x -> x.as(0, 3), OUTSIDE, 0);
        keeps("P30 cast", UnchangedTest::busy, x -> x.as(0, 2), CAST, 2);
        keeps("P30 as it is", UnchangedTest::busy, x -> x.as(0, 1), 1, 0);
    }

    private static void questions() {
        stays("P3", UnchangedTest::busy, x -> x.ofPerson(1, 0), 3);
        stays("P5", UnchangedTest::busy, x -> x.ofCall(1, 0), 2);
        stays("P7", UnchangedTest::busy, x -> x.may(0, 0), 2);
        stays("P8", UnchangedTest::busy, x -> x.runs(3, 0), 1);
        stays("P9", UnchangedTest::busy, x -> x.verdict(1), 0);
        stays("P10", UnchangedTest::busy, x -> x.calls(0, 1), 1);
        stays("P11", UnchangedTest::busy, x -> x.keeps(0, 0, 1), 2);
        stays("P12", UnchangedTest::busy, x -> x.best(0, 0), 0);
        stays("P13", UnchangedTest::busy, x -> x.alike(0), 1);
        stays("P14", UnchangedTest::busy, x -> x.sure(2, 0, 1), 1);
        stays("P15", UnchangedTest::busy, x -> x.known(2, 1), 3);
        stays("P16", UnchangedTest::busy, x -> x.end(2), 0);
        stays("P17", UnchangedTest::busy, x -> x.joined(), 1);
        stays("P18", UnchangedTest::busy, x -> x.bridge(-1), 2);
        stays("P19", UnchangedTest::busy, x -> x.sun(), 0);
        stays("P20", UnchangedTest::busy, x -> x.mend(1, -1), 2);
        stays("P21", UnchangedTest::busy, x -> x.nets(3, 1, 2), 30);
        stays("P22", UnchangedTest::busy, x -> x.within(0, 1), 0);
        keeps("P26", UnchangedTest::busy, x -> x.cell(0, 2, 0), -7, 0);
        stays("P32", UnchangedTest::busy, x -> x.fault(), EARLIER);
        stays("P33", UnchangedTest::busy, x -> x.many(2), 2);
    }

    /** A call that names no FAULTS: the earlier one stays. */
    private static void stays(String what, Supplier<CallRounds> made, ToLongFunction<CallRounds> ask, long due) {
        stays(what, made, EARLIER, ask, due);
    }

    private static void stays(String what, Supplier<CallRounds> made, int earlier, ToLongFunction<CallRounds> ask, long due) {
        keeps(what, made, ask, due, earlier);
    }

    /** What the call answers, the FAULT behind it, and that nothing else is other than without it. */
    private static void keeps(String what, Supplier<CallRounds> made, ToLongFunction<CallRounds> ask, long due, int fault) {
        CallRounds asked = made.get();
        CallRounds twin = made.get();
        Check.faulted(what, asked, ask.applyAsLong(asked), due, fault);
        List<Long> now = look(asked);
        List<Long> were = look(twin);
        for (int i = 0; i < were.size(); i++) {
            if (!now.get(i).equals(were.get(i))) Check.due(what + " changes what look() has at " + i, now.get(i), were.get(i));
        }
        Check.isTrue(what + " changes nothing", now.equals(were));
    }

    /** All that can be seen of an object but fault(), in less than 400 calls. */
    private static List<Long> look(CallRounds x) {
        List<Long> seen = new ArrayList<>();
        seen.add((long) x.trace());
        for (int what = 0; what < 4; what++) seen.add((long) x.many(what));
        for (int p = 0; p < x.many(0); p++) {
            for (int what = 0; what < 6; what++) seen.add((long) x.ofPerson(p, what));
            for (int q = 0; q < x.many(0); q++) seen.add((long) x.known(p, q));
            seen.add((long) x.alike(p));
        }
        for (int c = 0; c <= x.many(1); c++) {
            for (int what = 0; what < 5; what++) seen.add((long) x.ofCall(c, what));
        }
        for (int rule = 0; rule < 4; rule++) {
            seen.add(x.runs(rule, 0));
            seen.add((long) x.mend(rule, -1));
            seen.add((long) x.nets(3, rule, 2));
        }
        for (int k = 0; k < 4; k++) {
            for (int lane = 0; lane < 3; lane++) {
                for (int i = 0; i < 8; i++) seen.add(x.cell(k, i, lane));
            }
            seen.add((long) x.lose(k));
        }
        int calls = 0;
        while (x.back() >= 0) calls++;
        seen.add((long) calls);
        for (int p = 0; p < x.many(0); p++) seen.add((long) x.ofPerson(p, 1));
        return seen;
    }
}
