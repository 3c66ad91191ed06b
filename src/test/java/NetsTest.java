/** Promises 17 (joined), 18 (bridge), 19 (sun), 20 (mend), 21 (nets) and 22 (within). */
public final class NetsTest {
    public static void main(String[] args) {
        joinedAndBridges();
        suns();
        callsChangeNoNet();
        mending();
        allNets();
        within();
        withinByTokensAlone();
        refusals();
        Check.finish();
    }

    private static void joinedAndBridges() {
        bridges("p");
        bridges("p1;p", 1);
        bridges("p;p0", 10);
        bridges("p1;p0");
        bridges("p1;p2;p", 1, 12);
        bridges("p;p0;p0", 10, 20);
        bridges("p1;p2;p0");
        bridges("p12;p0;p", 2);
        bridges("p1;p0;p3;p2", -3);
        bridges("p1;p02;p3;p2", 12);
        bridges("p1;p;p3;p1", 1, 23, 31);
        bridges("p123;p023;p013;p012");
        for (String apart : new String[] {"p;p", "p1;p;p", "p;p2;p1", "p1;p0;p3;p2", "p12;p;p;p"}) {
            Check.due("P17 apart " + apart, Check.withNet(apart).joined(), 0);
        }
    }

    private static void bridges(String text, int... due) {
        CallRounds x = Check.withNet(text);
        boolean apart = due.length == 1 && due[0] == -3;
        Check.due("P17 " + text, x.joined(), apart ? 0 : 1);
        Check.due("P18 how many in " + text, x.bridge(-1), apart ? -3 : due.length);
        for (int k = 0; k < 12; k++) {
            int want = apart ? -3 : k < due.length ? due[k] : -9;
            Check.due("P18 the " + k + "th in " + text, x.bridge(k), want);
        }
        Check.due("P18 k 12", x.bridge(12), -1);
        Check.due("P18 k -2", x.bridge(-2), -1);
    }

    private static void suns() {
        String[] texts = {"p", "p;p", "p1;p", "p1;p0", "p1;p0;p", "p1;p2;p0", "p12;p0;p0", "p1;p0;p0", "p12;p0;p",
            "p1;p2;p3;p0", "p1;p2;p3;p2", "p;p0;p0;p0", "p1;p0;p3;p2", "p;p;p;p",
            "p;p0", "p;p2;p3;p10", "p2;p;p3;p01", "p1;p3;p;p02", "p1;p2;p03;p"};
        // In the last five there is one alone from which one can't come to those with numbers.
        int[] due = {1, 1, 0, 1, 0, 1, 1, 0, 0, 1, 0, 0, 0, 1, 0, 0, 0, 0, 0};
        for (int i = 0; i < texts.length; i++) Check.due("P19 " + texts[i], Check.withNet(texts[i]).sun(), due[i]);
    }

    private static void callsChangeNoNet() {
        CallRounds x = Check.withCalls("p1;p2;p", "01 12 20");
        Check.due("P17 behind calls", x.joined(), 1);
        Check.due("P18 behind calls", x.bridge(-1), 2);
        Check.due("P19 behind calls", x.sun(), 0);
        Check.due("P20 from the start", x.mend(1, -1), 2);
        Check.due("P20 from the start", x.mend(0, -1), 4);
        Check.due("P21 behind calls", x.nets(2, 0, 2), 3);
    }

    private static void mending() {
        mends("p", 0);
        for (int rule = 0; rule < 4; rule++) {
            mends("p;p", rule, 1, 10);
            mends("p1;p", rule, 10);
            mends("p;p;p", rule);
            mends("p12;p02;p01", rule);
        }
        mends("p1;p2;p", 1, 10, 20);
        mends("p1;p2;p", 2, 2, 10, 20, 21);
        mends("p1;p;p", 0, 2, 12, 20, 21);
        mends("p1;p;p3;p1", 1);
    }

    private static void mends(String text, int rule, int... due) {
        CallRounds x = Check.withNet(text);
        for (int k = 11; k >= 0; k--) {
            Check.due("P20 the " + k + "th of rule " + rule + " for " + text, x.mend(rule, k), k < due.length ? due[k] : -9);
        }
        Check.due("P20 how many of rule " + rule + " for " + text, x.mend(rule, -1), due.length);
    }

    private static void allNets() {
        CallRounds x = new CallRounds();
        Oracle oracle = new Oracle();
        int[] joined = {1, 3, 54};
        for (int rule = 0; rule < 4; rule++) {
            for (int n = 1; n <= 3; n++) {
                Check.due("P21 joined nets of " + n, x.nets(n, rule, 3), joined[n - 1]);
                int sum = 0;
                for (int what = 0; what < 3; what++) {
                    sum += x.nets(n, rule, what);
                    Check.due("P21 " + n + ", " + rule + ", " + what, x.nets(n, rule, what), oracle.nets(n, rule, what));
                }
                Check.due("P21 verdicts of all", sum, joined[n - 1]);
            }
        }
        Check.due("P21 sure with rule 1", x.nets(3, 1, 2), 30);
        Check.due("P21 sure with rule 0", x.nets(3, 0, 2), 54);
        Check.due("P21 no persons are needed or made", x.many(0), 0);
    }

    private static void within() {
        int[][] line = {{1, 0, 0, 0}, {1, 1, 0, 0}, {1, 0, 1, -2}, {1, 0, -2, 1}};
        String[] lines = {"p1;p2;p", "p2;p;p1", "p;p0;p1", "p;p2;p0", "p1;p;p0", "p2;p0;p"};
        for (int rule = 0; rule < 4; rule++) {
            for (int other = 0; other < 4; other++) {
                String what = "P22 " + rule + " in " + other;
                for (String text : lines) Check.due(what + ", " + text, Check.withNet(text).within(rule, other), line[rule][other]);
                int unlike = rule != other && rule + other == 5 && rule > 1 ? -2 : 1;
                Check.due(what + ", two", Check.withNet("p1;p").within(rule, other), unlike);
                Check.due(what + ", all rung", Check.withCalls("p1;p0", "01").within(rule, other), unlike);
                Check.due(what + ", nobody may", Check.withNet("p;p;p").within(rule, other), unlike);
            }
        }
        // By rule 1 nobody but 0 can ring yet, and 2 alone: it has rung, so its token is lost, its hub's is not.
        CallRounds late = Check.withCalls("p1;p2;p", "01 12");
        Check.due("P22 from now on, by tokens that are lost", late.within(1, 2), 0);
        Check.due("P22 from now on, by tokens that are kept", late.within(1, 3), 1);
        CallRounds spent = Check.withCalls("p12;p;p", "01");
        Check.due("P22 0 has no token for 2", spent.within(0, 2), 0);
        Check.due("P22 1 has no hub's token for 2", spent.within(0, 3), 0);
    }

    /** One object, asked where TOKENS alone are other ones than where it was asked ahead. */
    private static void withinByTokensAlone() {
        CallRounds x = Check.withCalls("p12;p0;p", "01 02");
        Check.due("P22 1 has its token", x.within(1, 2), 1);
        rung(x, "10 02");
        Check.due("P22 1 has lost it", x.within(1, 2), 0);
        rung(x, "01 12");
        Check.due("P22 0 is a hub", x.within(1, 3), 1);
        rung(x, "10 12");
        Check.due("P22 0 is none", x.within(1, 3), 0);
        rung(x, "01 10");
        Check.due("P22 no hub has a number", x.within(3, 1), 1);
        rung(x, "01");
        Check.due("P22 0 is a hub and rings 1 again", x.within(3, 1), 0);
    }

    private static void rung(CallRounds x, String pairs) {
        while (x.many(1) > 0) x.back();
        for (String pair : pairs.split(" ")) Check.isTrue("P4 " + pair, x.call(pair.charAt(0) - '0', pair.charAt(1) - '0') >= 0);
    }

    private static void refusals() {
        CallRounds none = new CallRounds();
        Check.due("P17 nobody", none.joined(), -3);
        Check.due("P18 nobody", none.bridge(-1), -3);
        Check.due("P18 unknown first", none.bridge(12), -1);
        Check.due("P19 nobody", none.sun(), -3);
        Check.due("P20 nobody", none.mend(0, -1), -3);
        Check.due("P20 unknown rule first", none.mend(4, -1), -1);
        Check.due("P20 unknown k first", none.mend(0, 12), -1);
        Check.due("P20 unknown k first", none.mend(0, -2), -1);
        Check.due("P22 nobody", none.within(0, 0), -3);
        Check.due("P22 outside first", none.within(2, 3), -2);
        Check.due("P22 outside first", none.within(3, 2), -2);
        Check.due("P22 unknown first", none.within(4, 0), -1);
        Check.due("P22 unknown first", none.within(0, -1), -1);
        Check.due("P21 unknown first", none.nets(4, 4, 4), -1);
        Check.due("P21 unknown first", none.nets(4, -1, 4), -1);
        Check.due("P21 n 0", none.nets(0, 0, 0), -2);
        Check.due("P21 n 4", none.nets(4, 0, 0), -2);
        Check.due("P21 what -1", none.nets(1, 0, -1), -2);
        Check.due("P21 what 4", none.nets(1, 0, 4), -2);
    }
}
