import java.util.ArrayList;
import java.util.HashMap;
import java.util.List;
import java.util.Map;

/**
 * All nets that there are. What is so of a net by itself (promises 17 to 19) is asked of each; what
 * parts 2 and 4 of the document tell of RULES (promises 7 to 12, 20 and 22) of each of up to 3
 * PERSONS, and of one of 4 PERSONS of each kind: nets are of a kind if they are the same but for how
 * PERSONS are numbered. Counts of the others of its kind must be the same, then.
 */
public final class AllNetsTest {
    private static final Map<Integer, List<Long>> COUNTS = new HashMap<>();

    private final String text;
    private final CallRounds x = new CallRounds();
    private final Oracle oracle = new Oracle();

    private AllNetsTest(String text) {
        this.text = text;
        x.sheet(0, 0, text.length());
        oracle.sheet(0, 0, text.length());
        for (int i = 0; i < text.length(); i++) {
            x.put(0, i, text.charAt(i));
            oracle.put(0, i, text.charAt(i));
        }
        Check.due("P2 " + text, x.net(0, 0, 0, text.length()), oracle.net(0, 0, 0, text.length()));
    }

    public static void main(String[] args) {
        int nets = 0;
        for (int n = 1; n <= 4; n++) {
            COUNTS.clear();
            for (int choice = 0; choice < 1 << n * (n - 1); choice++) {
                AllNetsTest test = new AllNetsTest(text(n, choice));
                test.askNet();
                test.askKind(kind(n, choice), n < 4);
                nets++;
            }
        }
        Check.due("all nets", nets, 1 + 4 + 64 + 4096);
        Check.due("kinds of nets of 4", COUNTS.size(), 218);
        Check.finish();
    }

    /** The lowest choice that makes the same net with its PERSONS numbered in some other way. */
    private static int kind(int n, int choice) {
        int lowest = choice;
        for (int[] order : orders(n)) {
            int other = 0;
            int bit = 0;
            for (int p = 0; p < n; p++) {
                for (int q = 0; q < n; q++) {
                    if (p == q) continue;
                    if ((choice >> bit & 1) == 1) other |= 1 << bitOf(n, order[p], order[q]);
                    bit++;
                }
            }
            lowest = Math.min(lowest, other);
        }
        return lowest;
    }

    private static int bitOf(int n, int p, int q) {
        return p * (n - 1) + (q < p ? q : q - 1);
    }

    private static List<int[]> orders(int n) {
        List<int[]> orders = new ArrayList<>();
        int codes = (int) Math.pow(n, n);
        for (int code = 0; code < codes; code++) {
            int[] order = new int[n];
            int used = 0;
            for (int p = 0, rest = code; p < n; p++, rest /= n) {
                order[p] = rest % n;
                used |= 1 << order[p];
            }
            if (used == (1 << n) - 1) orders.add(order);
        }
        return orders;
    }

    private static String text(int n, int choice) {
        StringBuilder text = new StringBuilder();
        int bit = 0;
        for (int p = 0; p < n; p++) {
            text.append(p == 0 ? "p" : ";p");
            for (int q = 0; q < n; q++) {
                if (p != q && (choice >> bit++ & 1) == 1) text.append(q);
            }
        }
        return text.toString();
    }

    private void askNet() {
        Check.due("P17 " + text, x.joined(), oracle.joined());
        for (int k = -1; k < 12; k++) Check.due("P18 " + k + " of " + text, x.bridge(k), oracle.bridge(k));
        Check.due("P19 " + text, x.sun(), oracle.sun());
        Check.due("P33 " + text, x.many(3), oracle.many(3));
    }

    private void askKind(int kind, boolean each) {
        List<Long> first = COUNTS.get(kind);
        if (first == null || each) askRules();
        List<Long> counts = counts();
        if (first == null) COUNTS.put(kind, counts);
        else Check.isTrue(text + " is as the others of its kind: " + counts + ", " + first, counts.equals(first));
    }

    /** What does not depend on how PERSONS are numbered. */
    private List<Long> counts() {
        List<Long> counts = new ArrayList<>();
        counts.add((long) x.joined());
        counts.add((long) x.bridge(-1));
        counts.add((long) x.sun());
        for (int rule = 0; rule < 4; rule++) {
            for (int what = 0; what < 2; what++) {
                counts.add(x.runs(rule, what));
                counts.add((long) x.calls(rule, what));
            }
            counts.add((long) x.verdict(rule));
            counts.add((long) x.mend(rule, -1));
            for (int other = 0; other < 4; other++) counts.add((long) x.within(rule, other));
        }
        return counts;
    }

    private void askRules() {
        for (int rule = 0; rule < 4; rule++) {
            String of = " by rule " + rule + " of " + text;
            for (int what = 0; what < 2; what++) {
                Check.due("P8 " + what + of, x.runs(rule, what), oracle.runs(rule, what));
                Check.due("P10 " + what + of, x.calls(rule, what), oracle.calls(rule, what));
                Check.due("P12 " + what + of, x.best(rule, what), oracle.best(rule, what));
            }
            Check.due("P9" + of, x.verdict(rule), oracle.verdict(rule));
            for (int k = -1; k < 12; k++) Check.due("P20 " + k + of, x.mend(rule, k), oracle.mend(rule, k));
            for (int other = 0; other < 4; other++) Check.due("P22 in " + other + of, x.within(rule, other), oracle.within(rule, other));
            for (int p = 0; p < x.many(0); p++) {
                Check.due("P7 " + p + of, x.may(rule, p), oracle.may(rule, p));
                for (int q = 0; q < x.many(0); q++) Check.due("P11 " + p + " " + q + of, x.keeps(rule, p, q), oracle.keeps(rule, p, q));
            }
        }
    }
}
