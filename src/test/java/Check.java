/** What the tests share: counting wrong answers, and telling a net by its text. */
final class Check {
    private static int looked = 0;
    private static int wrong = 0;

    private Check() {
    }

    static void due(String what, long got, long want) {
        looked++;
        if (got == want) return;
        wrong++;
        System.out.println(what + " answered " + got + ", due is " + want);
    }

    static void isTrue(String what, boolean is) {
        due(what, is ? 1 : 0, 1);
    }

    /** Tells how it went, and ends with 1 if an answer was wrong. */
    static void finish() {
        System.out.println(looked + " answers, " + wrong + " of them wrong");
        if (wrong != 0 || looked == 0) System.exit(1);
    }

    /** The text goes to sheet 3, as ints, and is told as a net. */
    static int tellNet(CallRounds x, String text) {
        x.sheet(3, 2, text.length());
        for (int i = 0; i < text.length(); i++) x.put(3, i, text.charAt(i));
        return x.net(3, 2, 0, text.length());
    }

    static CallRounds withNet(String text) {
        CallRounds x = new CallRounds();
        tellNet(x, text);
        return x;
    }

    /** Calls told as pairs of digits with blanks between. */
    static CallRounds withCalls(String text, String pairs) {
        CallRounds x = withNet(text);
        for (String pair : pairs.split(" ")) {
            int number = x.call(pair.charAt(0) - '0', pair.charAt(1) - '0');
            if (number < 0) throw new IllegalStateException("no call " + pair + " in " + text + ": " + number);
        }
        return x;
    }
}
