import java.util.LinkedHashMap;
import java.util.Map;
import java.util.function.ToLongFunction;

/**
 * Promise 32: fault() tells the FAULT of the latest call that names one: each FAULT of each such
 * call; 0, if it came to none or was refused; and calls that name none leave it.
 */
public final class FaultTest {
    private static final long LOST = Long.MIN_VALUE;

    public static void main(String[] args) {
        noneAheadOfAny();
        eachFault();
        noneBehindAnAnswer();
        noneBehindARefusal();
        othersLeaveIt();
        theLatestCounts();
        Check.finish();
    }

    /** Calls 0 NEWS, 1 nothing learnt; sheet 0 bytes, 1 shorts, 2 nothing, 3 the net's text as ints. */
    private static CallRounds some() {
        CallRounds x = Check.withCalls("p1;p;p", "01 01");
        x.sheet(0, 0, 2);
        x.sheet(1, 1, 2);
        return x;
    }

    private static void noneAheadOfAny() {
        CallRounds x = new CallRounds();
        Check.due("P32 ahead of any", x.fault(), 0);
        x.many(0);
        x.lose(0);
        x.call(0, 1);
        x.tell(0);
        Check.due("P32 ahead of any that names one", x.fault(), 0);
    }

    private static void eachFault() {
        one("P2 null", 1, -11, x -> x.net(2, 0, 0, 1));
        one("P2 cast", 2, -12, x -> x.net(3, 0, 0, 1));
        one("P2 index", 3, -13, x -> x.net(3, 2, 0, 7));
        one("P2 size", 4, -14, x -> x.net(3, 2, 0, -1));
        one("P23 size", 4, -14, x -> x.sheet(0, 0, -1));
        one("P25 null", 1, -11, x -> x.put(2, 0, 1));
        one("P25 index", 3, -13, x -> x.put(0, 2, 1));
        one("P26 null", 1, LOST, x -> x.cell(2, 0, 0));
        one("P26 cast", 2, LOST, x -> x.cell(0, 0, 1));
        one("P26 index", 3, LOST, x -> x.cell(0, 2, 0));
        one("P27 null, the first", 1, -11, x -> x.copy(2, 0, 0, 0, 1));
        one("P27 null, the other", 1, -11, x -> x.copy(0, 0, 2, 0, 1));
        one("P27 cast", 2, -12, x -> x.copy(0, 0, 1, 0, 1));
        one("P27 index of the first", 3, -13, x -> x.copy(0, 2, 0, 0, 1));
        one("P27 index of the other", 3, -13, x -> x.copy(0, 0, 0, 2, 1));
        one("P27 index, n below 0", 3, -13, x -> x.copy(0, 0, 0, 0, -1));
        one("P30 cast to NEWS", 2, -12, x -> x.as(1, 1));
        one("P30 cast to WHOLE", 2, -12, x -> x.as(0, 2));
    }

    /** The FAULT, whatever there was ahead of it, and that asking for it does not take it away. */
    private static void one(String what, int fault, long due, ToLongFunction<CallRounds> ask) {
        CallRounds x = some();
        Check.faulted(what, x, ask.applyAsLong(x), due, fault);
        Check.due(what + ", fault() again", x.fault(), fault);
        for (int earlier = 1; earlier <= 4; earlier++) {
            come(x, earlier);
            Check.faulted(what + " behind " + earlier, x, ask.applyAsLong(x), due, fault);
        }
    }

    /** Some call that comes to a FAULT. */
    private static void come(CallRounds x, int fault) {
        switch (fault) {
            case 1: x.put(2, 0, 0); break;
            case 2: x.cell(0, 0, 2); break;
            case 3: x.put(0, 60, 0); break;
            default: x.sheet(2, 0, -1);
        }
        Check.due("P32 fault " + fault, x.fault(), fault);
    }

    private static void noneBehindAnAnswer() {
        goes("P2 a net", 3, x -> x.net(3, 2, 0, 6));
        goes("P2 a text that is none", -100, x -> x.net(3, 2, 1, 0));
        goes("P23", 1, x -> x.sheet(0, 0, 2));
        goes("P25", 1, x -> x.put(0, 0, 1));
        goes("P26", 0, x -> x.cell(1, 0, 1));
        goes("P27", 2, x -> x.copy(0, 0, 0, 0, 2));
        goes("P27 none are taken", 0, x -> x.copy(0, 2, 0, 2, 0));
        CallRounds x = some();
        come(x, 1);
        Check.faulted("P30", x, x.as(0, 1), 1, 0);
    }

    private static void noneBehindARefusal() {
        goes("P2 unknown", -1, x -> x.net(4, 0, 0, 1));
        goes("P2 outside", -2, x -> x.net(3, 3, 0, 1));
        goes("P23 unknown", -1, x -> x.sheet(4, 0, 1));
        goes("P23 outside lane", -2, x -> x.sheet(0, 3, 1));
        goes("P23 outside n", -2, x -> x.sheet(0, 0, 61));
        goes("P25 unknown", -1, x -> x.put(4, 0, 1));
        goes("P26 unknown", LOST, x -> x.cell(4, 0, 0));
        goes("P26 outside", LOST, x -> x.cell(0, 0, 3));
        goes("P27 unknown", -1, x -> x.copy(4, 0, 0, 0, 1));
        goes("P27 unknown other", -1, x -> x.copy(0, 0, 4, 0, 1));
        goes("P30 unknown", -1, x -> x.as(2, 0));
        CallRounds x = some();
        come(x, 2);
        Check.faulted("P30 outside", x, x.as(0, 3), -2, 0);
    }

    private static void goes(String what, long due, ToLongFunction<CallRounds> ask) {
        CallRounds x = some();
        for (int earlier = 1; earlier <= 4; earlier++) {
            come(x, earlier);
            Check.faulted(what + " behind " + earlier, x, ask.applyAsLong(x), due, 0);
        }
    }

    /** Each call that names no FAULTS, once answered and once refused. */
    private static void othersLeaveIt() {
        Map<String, ToLongFunction<CallRounds>> calls = new LinkedHashMap<>();
        calls.put("P3", x -> x.ofPerson(0, 0));
        calls.put("P3 refused", x -> x.ofPerson(3, 0));
        calls.put("P4", x -> x.call(0, 1));
        calls.put("P4 refused", x -> x.call(0, 0));
        calls.put("P5", x -> x.ofCall(0, 0));
        calls.put("P5 refused", x -> x.ofCall(12, 0));
        calls.put("P7", x -> x.may(0, 0));
        calls.put("P7 refused", x -> x.may(4, 0));
        calls.put("P8", x -> x.runs(0, 0));
        calls.put("P8 refused", x -> x.runs(4, 0));
        calls.put("P9", x -> x.verdict(0));
        calls.put("P9 refused", x -> x.verdict(4));
        calls.put("P10", x -> x.calls(0, 0));
        calls.put("P10 refused", x -> x.calls(0, 2));
        calls.put("P11", x -> x.keeps(0, 0, 2));
        calls.put("P11 refused", x -> x.keeps(0, 0, 0));
        calls.put("P12", x -> x.best(0, 0));
        calls.put("P12 refused", x -> x.best(0, 2));
        calls.put("P13", x -> x.alike(0));
        calls.put("P13 refused", x -> x.alike(3));
        calls.put("P14", x -> x.sure(0, 1, 2));
        calls.put("P14 refused", x -> x.sure(0, 1, 3));
        calls.put("P15", x -> x.known(0, 1));
        calls.put("P15 refused", x -> x.known(0, 3));
        calls.put("P16", x -> x.end(0));
        calls.put("P16 refused", x -> x.end(3));
        calls.put("P17", x -> x.joined());
        calls.put("P18", x -> x.bridge(-1));
        calls.put("P18 refused", x -> x.bridge(12));
        calls.put("P19", x -> x.sun());
        calls.put("P20", x -> x.mend(0, -1));
        calls.put("P20 refused", x -> x.mend(0, 12));
        calls.put("P21", x -> x.nets(2, 0, 0));
        calls.put("P21 refused", x -> x.nets(0, 0, 0));
        calls.put("P22", x -> x.within(0, 1));
        calls.put("P22 refused", x -> x.within(2, 3));
        calls.put("P24", x -> x.lose(1));
        calls.put("P24 it had nothing", x -> x.lose(2));
        calls.put("P24 refused", x -> x.lose(4));
        calls.put("P28", x -> x.tell(0));
        calls.put("P28 refused", x -> x.tell(12));
        calls.put("P29", x -> x.log(0));
        calls.put("P29 refused", x -> x.log(12));
        calls.put("P31", x -> x.trace());
        calls.put("P33", x -> x.many(0));
        calls.put("P33 refused", x -> x.many(4));
        calls.put("P6", x -> x.back());
        for (int earlier = 1; earlier <= 4; earlier++) {
            CallRounds x = some();
            come(x, earlier);
            for (Map.Entry<String, ToLongFunction<CallRounds>> call : calls.entrySet()) {
                call.getValue().applyAsLong(x);
                Check.due("P32 " + earlier + " stays behind " + call.getKey(), x.fault(), earlier);
            }
            CallRounds none = some();
            for (Map.Entry<String, ToLongFunction<CallRounds>> call : calls.entrySet()) call.getValue().applyAsLong(none);
            Check.due("P32 none of them brings one", none.fault(), 0);
        }
    }

    private static void theLatestCounts() {
        CallRounds x = some();
        for (int first = 1; first <= 4; first++) {
            for (int second = 1; second <= 4; second++) {
                come(x, first);
                come(x, second);
            }
        }
        x.put(0, 0, 1);
        Check.due("P32 none by the latest", x.fault(), 0);
        x.many(0);
        Check.due("P32 still none", x.fault(), 0);
    }
}
