/**
 * All nets that there are: of up to 3 PERSONS all that parts 2 and 4 of the document tell of them
 * (promises 7 to 12 and 17 to 22), of 4 PERSONS what is so of the net by itself (promises 17 to
 * 19), and of some of them the rest.
 */
public final class AllNetsTest {
    /** A prime, so that the nets taken are of all kinds. */
    private static final int TAKEN = 89;

    private final String text;
    private final CallRounds x = new CallRounds();
    private final Oracle oracle = new Oracle();

    private AllNetsTest(String text) {
        this.text = text;
        x.sheet(0, 0, text.length());
        oracle.sheet(0, 0, text.length());
        for (int i = 0; i < text.length(); i++) {
            x.put(0, i, text.charAt(i));
            oracle.put(0, i, text.charAt(i));
        }
        Check.due("P2 " + text, x.net(0, 0, 0, text.length()), oracle.net(0, 0, 0, text.length()));
    }

    public static void main(String[] args) {
        int nets = 0;
        for (int n = 1; n <= 4; n++) {
            for (int choice = 0; choice < 1 << n * (n - 1); choice++) {
                AllNetsTest test = new AllNetsTest(text(n, choice));
                test.askNet();
                if (n < 4 || choice % TAKEN == 0) test.askRules();
                nets++;
            }
        }
        Check.due("all nets", nets, 1 + 4 + 64 + 4096);
        Check.finish();
    }

    private static String text(int n, int choice) {
        StringBuilder text = new StringBuilder();
        int bit = 0;
        for (int p = 0; p < n; p++) {
            text.append(p == 0 ? "p" : ";p");
            for (int q = 0; q < n; q++) {
                if (p != q && (choice >> bit++ & 1) == 1) text.append(q);
            }
        }
        return text.toString();
    }

    private void askNet() {
        Check.due("P17 " + text, x.joined(), oracle.joined());
        for (int k = -1; k < 12; k++) Check.due("P18 " + k + " of " + text, x.bridge(k), oracle.bridge(k));
        Check.due("P19 " + text, x.sun(), oracle.sun());
        Check.due("P33 " + text, x.many(3), oracle.many(3));
    }

    private void askRules() {
        for (int rule = 0; rule < 4; rule++) {
            String of = " by rule " + rule + " of " + text;
            for (int what = 0; what < 2; what++) {
                Check.due("P8 " + what + of, x.runs(rule, what), oracle.runs(rule, what));
                Check.due("P10 " + what + of, x.calls(rule, what), oracle.calls(rule, what));
                Check.due("P12 " + what + of, x.best(rule, what), oracle.best(rule, what));
            }
            Check.due("P9" + of, x.verdict(rule), oracle.verdict(rule));
            for (int k = -1; k < 12; k++) Check.due("P20 " + k + of, x.mend(rule, k), oracle.mend(rule, k));
            for (int other = 0; other < 4; other++) Check.due("P22 in " + other + of, x.within(rule, other), oracle.within(rule, other));
            for (int p = 0; p < x.many(0); p++) {
                Check.due("P7 " + p + of, x.may(rule, p), oracle.may(rule, p));
                for (int q = 0; q < x.many(0); q++) Check.due("P11 " + p + " " + q + of, x.keeps(rule, p, q), oracle.keeps(rule, p, q));
            }
        }
    }
}
