import java.util.function.IntToLongFunction;

/** What the tests share: counting wrong answers, and telling a net by its text. */
final class Check {
    /** Nets of 1 to 4 persons, at their number, in which everybody has all numbers. */
    static final String[] WHOLE_NETS = {"", "p", "p1;p0", "p12;p02;p01", "p123;p023;p013;p012"};

    private static int looked = 0;
    private static int wrong = 0;

    private Check() {
    }

    static void due(String what, long got, long want) {
        looked++;
        if (got == want) return;
        wrong++;
        System.out.println(what + " answered " + got + ", due is " + want);
    }

    static void isTrue(String what, boolean is) {
        due(what, is ? 1 : 0, 1);
    }

    /** An answer, and what fault() tells behind it. */
    static void faulted(String what, CallRounds x, long got, long want, int fault) {
        due(what, got, want);
        due(what + ", fault()", x.fault(), fault);
    }

    /** A number that may be low .. high: what is due for these two, and for all that are not between. */
    static void range(String what, int low, long dueLow, int high, long dueHigh, long beyond, IntToLongFunction ask) {
        below(what, low, dueLow, beyond, ask);
        above(what, high, dueHigh, beyond, ask);
    }

    static void below(String what, int low, long dueLow, long beyond, IntToLongFunction ask) {
        due(what + ": " + low + " is the lowest", ask.applyAsLong(low), dueLow);
        due(what + ": " + (low - 1) + " is too low", ask.applyAsLong(low - 1), beyond);
        due(what + ": the lowest int is too low", ask.applyAsLong(Integer.MIN_VALUE), beyond);
    }

    static void above(String what, int high, long dueHigh, long beyond, IntToLongFunction ask) {
        due(what + ": " + high + " is the highest", ask.applyAsLong(high), dueHigh);
        due(what + ": " + (high + 1) + " is too high", ask.applyAsLong(high + 1), beyond);
        due(what + ": the highest int is too high", ask.applyAsLong(Integer.MAX_VALUE), beyond);
    }

    /** Tells how it went, and ends with 1 if an answer was wrong. */
    static void finish() {
        System.out.println(looked + " answers, " + wrong + " of them wrong");
        if (wrong != 0 || looked == 0) System.exit(1);
    }

    /** The text goes to sheet 3, as ints, and is told as a net. */
    static int tellNet(CallRounds x, String text) {
        x.sheet(3, 2, text.length());
        for (int i = 0; i < text.length(); i++) x.put(3, i, text.charAt(i));
        return x.net(3, 2, 0, text.length());
    }

    static CallRounds withNet(String text) {
        CallRounds x = new CallRounds();
        tellNet(x, text);
        return x;
    }

    /** As many calls of 0 and 1, one ringing the other in turn. */
    static CallRounds withCallCount(String text, int count) {
        CallRounds x = withNet(text);
        for (int c = 0; c < count; c++) x.call(c % 2, 1 - c % 2);
        return x;
    }

    /** Calls told as pairs of digits with blanks between. */
    static CallRounds withCalls(String text, String pairs) {
        CallRounds x = withNet(text);
        for (String pair : pairs.split(" ")) {
            if (pair.isEmpty()) continue;
            int number = x.call(pair.charAt(0) - '0', pair.charAt(1) - '0');
            if (number < 0) throw new IllegalStateException("no call " + pair + " in " + text + ": " + number);
        }
        return x;
    }
}
