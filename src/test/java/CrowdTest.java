/**
 * An object a kind of question, asked about many nets with few positions in common, within its 512
 * calls, so that whatever it keeps of earlier answers gets crowded by that kind alone: what
 * promises 8 to 12, 20 and 22 answer must not change by what was asked ahead.
 */
public final class CrowdTest {
    private static final String[] NETS = {
        "p123;p023;p013;p012", "p13;p03;p013;p01", "p23;p023;p03;p02", "p123;p23;p13;p12", "p12;p02;p01;p012",
        "p3;p023;p013;p0", "p123;p3;p013;p1", "p123;p023;p3;p2", "p2;p023;p0;p012", "p123;p2;p1;p012",
        "p1;p0;p013;p012", "p13;p23;p03;p", "p12;p;p13;p01", "p;p03;p01;p02", "p23;p02;p;p12",
        "p3;p03;p03;p0", "p13;p3;p13;p1", "p1;p0;p01;p01", "p23;p23;p3;p2", "p2;p02;p0;p02",
        "p12;p2;p1;p12", "p13;p02;p01;p01", "p23;p23;p13;p02", "p23;p03;p03;p01"};

    private final CallRounds x = new CallRounds();
    private final Oracle oracle = new Oracle();
    private int calls;

    public static void main(String[] args) {
        String[] kinds = {"all", "good", "fewest", "most", "verdict", "keeps", "best", "mend", "within 0", "within 1"};
        for (String kind : kinds) {
            CrowdTest test = new CrowdTest();
            for (String net : NETS) {
                if (test.calls + net.length() + 6 > 512) break;
                test.tell(net);
                for (int rule = 3; rule >= 0; rule--) test.ask(kind, rule, net);
            }
        }
        Check.finish();
    }

    private void tell(String text) {
        x.sheet(0, 0, text.length());
        oracle.sheet(0, 0, text.length());
        for (int i = 0; i < text.length(); i++) {
            x.put(0, i, text.charAt(i));
            oracle.put(0, i, text.charAt(i));
        }
        Check.due(text, x.net(0, 0, 0, text.length()), oracle.net(0, 0, 0, text.length()));
        calls += text.length() + 2;
    }

    private void ask(String kind, int rule, String net) {
        String what = kind + ", rule " + rule + ", " + net;
        calls++;
        switch (kind) {
            case "all": Check.due("P8 " + what, x.runs(rule, 0), oracle.runs(rule, 0)); break;
            case "good": Check.due("P8 " + what, x.runs(rule, 1), oracle.runs(rule, 1)); break;
            case "fewest": Check.due("P10 " + what, x.calls(rule, 0), oracle.calls(rule, 0)); break;
            case "most": Check.due("P10 " + what, x.calls(rule, 1), oracle.calls(rule, 1)); break;
            case "verdict": Check.due("P9 " + what, x.verdict(rule), oracle.verdict(rule)); break;
            case "keeps": Check.due("P11 " + what, x.keeps(rule, 3, 2), oracle.keeps(rule, 3, 2)); break;
            case "best": Check.due("P12 " + what, x.best(rule, 1), oracle.best(rule, 1)); break;
            case "mend": Check.due("P20 " + what, x.mend(rule, -1), oracle.mend(rule, -1)); break;
            case "within 0": Check.due("P22 " + what, x.within(rule, 0), oracle.within(rule, 0)); break;
            default: Check.due("P22 " + what, x.within(rule, 1), oracle.within(rule, 1));
        }
    }
}
