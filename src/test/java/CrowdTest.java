/**
 * One object asked about many nets with few positions in common, within its 512 calls, so that
 * whatever it keeps of earlier answers gets crowded: what promises 8 to 12, 20 and 22 answer must
 * not change by what was asked ahead.
 */
public final class CrowdTest {
    private static final String[] NETS = {
        "p123;p023;p013;p012", "p13;p03;p013;p01", "p23;p023;p03;p02", "p123;p23;p13;p12", "p12;p02;p01;p012",
        "p3;p023;p013;p0", "p123;p3;p013;p1", "p123;p023;p3;p2", "p2;p023;p0;p012", "p123;p2;p1;p012",
        "p1;p0;p013;p012", "p13;p23;p03;p", "p12;p;p13;p01", "p;p03;p01;p02", "p23;p02;p;p12",
        "p3;p03;p03;p0", "p13;p3;p13;p1", "p1;p0;p01;p01", "p23;p23;p3;p2", "p2;p02;p0;p02",
        "p12;p2;p1;p12", "p13;p02;p01;p01", "p23;p23;p13;p02", "p23;p03;p03;p01"};

    private final CallRounds x = new CallRounds();
    private final Oracle oracle = new Oracle();

    public static void main(String[] args) {
        CrowdTest runs = new CrowdTest();
        CrowdTest within = new CrowdTest();
        CrowdTest choices = new CrowdTest();
        for (int net = 0; net < NETS.length; net++) {
            for (int rule = 0; rule < 4; rule++) {
                runs.askRuns(net, rule);
                within.askWithin(net, rule);
                if (net < 13) choices.askChoices(net, rule);
            }
        }
        Check.finish();
    }

    private String tell(int net, int rule) {
        String text = NETS[net];
        if (rule == 0) {
            x.sheet(0, 0, text.length());
            oracle.sheet(0, 0, text.length());
            for (int i = 0; i < text.length(); i++) {
                x.put(0, i, text.charAt(i));
                oracle.put(0, i, text.charAt(i));
            }
            Check.due(text, x.net(0, 0, 0, text.length()), oracle.net(0, 0, 0, text.length()));
        }
        return text + ", rule " + rule;
    }

    private void askRuns(int net, int rule) {
        String what = tell(net, rule);
        if (rule == 0) Check.due("P8 good, " + what, x.runs(rule, 1), oracle.runs(rule, 1));
        else if (rule == 1) Check.due("P10 fewest, " + what, x.calls(rule, 0), oracle.calls(rule, 0));
        else Check.due("P8 all, " + what, x.runs(rule, 0), oracle.runs(rule, 0));
    }

    private void askWithin(int net, int rule) {
        String what = tell(net, rule);
        Check.due("P22 " + what + " in 0", x.within(rule, 0), oracle.within(rule, 0));
    }

    private void askChoices(int net, int rule) {
        String what = tell(net, rule);
        Check.due("P20 " + what, x.mend(rule, -1), oracle.mend(rule, -1));
        Check.due("P11 " + what, x.keeps(rule, 3, 2), oracle.keeps(rule, 3, 2));
        Check.due("P12 who rings, " + what, x.best(rule, 0), oracle.best(rule, 0));
        Check.due("P12 who is rung, " + what, x.best(rule, 1), oracle.best(rule, 1));
        Check.due("P8 " + what, x.runs(rule, 0), oracle.runs(rule, 0));
    }
}
