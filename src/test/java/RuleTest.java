/** Promises 7 (may), 8 (runs), 9 (verdict), 10 (calls), 11 (keeps) and 12 (best). */
public final class RuleTest {
    public static void main(String[] args) {
        whoMayRing();
        tokens();
        smallestNets();
        lineOfThree();
        wholeNetOfFour();
        maybe();
        onlyGoodRunsCount();
        behindCalls();
        tokensThatAreLost();
        bestCalls();
        refusals();
        Check.finish();
    }

    private static void whoMayRing() {
        CallRounds x = Check.withCalls("p12;p0;p", "01");
        Check.due("P7 any: not one with the same secrets", x.may(0, 0), 4);
        Check.due("P7 any: by a number learnt", x.may(0, 1), 4);
        Check.due("P7 any: without numbers", x.may(0, 2), 0);
        x.call(1, 2);
        Check.due("P7 any: unlike secrets", x.may(0, 0), 6);
        Check.due("P7 new: secrets it has not", x.may(1, 0), 4);
        Check.due("P7 any: rings who has less", x.may(0, 2), 1);
        Check.due("P7 new: has all", x.may(1, 2), 0);
    }

    private static void tokens() {
        CallRounds x = Check.withCalls("p12;p0;p", "01");
        Check.due("P7 token: lost by ringing", x.may(2, 0), 0);
        Check.due("P7 token: who was rung has one", x.may(2, 1), 4);
        Check.due("P7 hub: who rang keeps it", x.may(3, 0), 4);
        Check.due("P7 hub: lost by being rung", x.may(3, 1), 0);
    }

    private static void smallestNets() {
        for (int rule = 0; rule < 4; rule++) {
            all("one alone", Check.withNet("p"), rule, 1, 1, 2, 0, 0, -9, -9);
            all("two apart", Check.withNet("p;p"), rule, 1, 0, 0, -9, -9, -9, -9);
            all("two", Check.withNet("p;p0"), rule, 1, 1, 2, 1, 1, 1, 0);
            all("two, both ways", Check.withNet("p1;p0"), rule, 2, 2, 2, 1, 1, 0, 1);
            all("two, rung", Check.withCalls("p1;p0", "01"), rule, 1, 1, 2, 0, 0, -9, -9);
        }
    }

    private static void all(String what, CallRounds x, int rule, int... due) {
        String name = what + ", rule " + rule;
        Check.due("P8 all, " + name, x.runs(rule, 0), due[0]);
        Check.due("P8 good, " + name, x.runs(rule, 1), due[1]);
        Check.due("P9 " + name, x.verdict(rule), due[2]);
        Check.due("P10 fewest, " + name, x.calls(rule, 0), due[3]);
        Check.due("P10 most, " + name, x.calls(rule, 1), due[4]);
        Check.due("P12 who rings, " + name, x.best(rule, 0), due[5]);
        Check.due("P12 who is rung, " + name, x.best(rule, 1), due[6]);
    }

    /** By hand: 0 rings 1, then 0 or 1 rings 2; or 1 rings 2 first, and then nobody has 0's secret but 0. */
    private static void lineOfThree() {
        CallRounds x = Check.withNet("p1;p2;p");
        all("a line", x, 1, 3, 2, 1, 3, 3, 0, 1);
        Check.due("P11 keeps sure", x.keeps(1, 0, 1), 2);
        Check.due("P11 gives it away", x.keeps(1, 1, 2), 0);
        Check.due("P11 any keeps sure", x.keeps(0, 1, 2), 2);
        Check.due("P11 asking rings nobody", x.many(1), 0);
    }

    private static void wholeNetOfFour() {
        CallRounds x = Check.withNet("p123;p023;p013;p012");
        all("all numbers", x, 0, 252288, 252288, 2, 4, 6, 0, 1);
        all("all numbers", x, 1, 5568, 5568, 2, 4, 6, 0, 1);
    }

    private static void maybe() {
        String text = "p12;p3;p3;p";
        CallRounds x = Check.withNet(text);
        Oracle oracle = new Oracle();
        oracle.sheet(0, 0, text.length());
        for (int i = 0; i < text.length(); i++) oracle.put(0, i, text.charAt(i));
        oracle.net(0, 0, 0, text.length());
        boolean some = false;
        for (int p = 0; p < 4; p++) {
            for (int q = 0; q < 4; q++) {
                Check.due("P11 " + p + " rings " + q, x.keeps(1, p, q), oracle.keeps(1, p, q));
                some |= x.keeps(1, p, q) == 1;
            }
        }
        Check.due("P9 maybe alone", x.verdict(1), 1);
        Check.isTrue("P11 a call that keeps it, but not sure", some);
    }

    /** Some runs that are not good have 2 calls, some 4; the good ones have 3. */
    private static void onlyGoodRunsCount() {
        CallRounds x = Check.withCalls("p2;p2;p;p01", "02");
        Check.due("P9 maybe alone", x.verdict(1), 1);
        Check.due("P10 fewest of a good run", x.calls(1, 0), 3);
        Check.due("P10 most of a good run", x.calls(1, 1), 3);
    }

    /** By any calls, not those of the rule: 0 and 1 have rung one another, so that neither is a hub. */
    private static void tokensThatAreLost() {
        CallRounds x = Check.withCalls("p12;p0;p", "01 10");
        all("no hub that has a number", x, 3, 1, 0, 0, -9, -9, -9, -9);
        all("any: two ring 2, then four the third", x, 0, 8, 8, 2, 2, 2, 0, 2);
        Check.due("P7 0 has its token back", x.may(2, 0), 4);
        Check.due("P7 1 has none", x.may(2, 1), 0);
        Check.due("P11 1 may not by its token", x.keeps(2, 1, 2), -3);
        Check.due("P11 nor as a hub", x.keeps(3, 1, 2), -3);
        Check.due("P11 but by any", x.keeps(0, 1, 2), 2);
    }

    private static void behindCalls() {
        CallRounds x = Check.withCalls("p123;p023;p013;p012", "01 23 02");
        all("behind three calls", x, 0, 50, 50, 2, 1, 2, 1, 3);
        all("behind three calls", x, 2, 28, 28, 2, 1, 2, 1, 3);
        all("behind three calls", x, 3, 2, 2, 2, 2, 2, 0, 1);
        // All but 0 have been rung, so that 0 alone may ring: 1 and 3, one after the other.
        Check.due("P7 the only hub", x.may(3, 0), 10);
        x.back();
        Check.due("P8 taken back", x.calls(0, 0), 2);
    }

    private static void bestCalls() {
        // 2 has lost its token by ringing 3, which has none the less by being rung.
        CallRounds x = Check.withCalls("p1;p;p3;p1", "01 23");
        Check.due("P12 any, who rings", x.best(0, 0), 2);
        Check.due("P12 any, who is rung", x.best(0, 1), 1);
        Check.due("P12 token, who rings", x.best(2, 0), 3);
        Check.due("P12 token, who is rung", x.best(2, 1), 1);
        Check.due("P12 new, no run is good", x.best(1, 0), -9);
        Check.due("P12 not a call that is longer", Check.withCalls("p123;p023;p013;p012", "01 23").best(0, 1), 2);
    }

    private static void refusals() {
        CallRounds none = new CallRounds();
        Check.due("P7 no person", none.may(0, 0), -1);
        Check.due("P8 no persons", none.runs(0, 0), Long.MIN_VALUE);
        Check.due("P9 no persons", none.verdict(3), -3);
        Check.due("P10 outside ahead of state", none.calls(0, 2), -2);
        Check.due("P10 no persons", none.calls(0, 1), -3);
        Check.due("P11 no persons", none.keeps(0, 0, 0), -1);
        Check.due("P12 outside ahead of state", none.best(0, -1), -2);
        Check.due("P12 no persons", none.best(0, 1), -3);
        CallRounds x = Check.withNet("p1;p;p");
        for (int rule : new int[] {-1, 4, Integer.MAX_VALUE, Integer.MIN_VALUE}) {
            Check.due("P7 no rule", x.may(rule, 0), -1);
            Check.due("P8 no rule", x.runs(rule, 0), Long.MIN_VALUE);
            Check.due("P9 no rule", x.verdict(rule), -1);
            Check.due("P10 no rule", x.calls(rule, 5), -1);
            Check.due("P11 no rule", x.keeps(rule, 0, 0), -1);
            Check.due("P12 no rule", x.best(rule, 5), -1);
        }
        Check.due("P7 no person", x.may(0, 3), -1);
        Check.due("P7 no person", x.may(0, -1), -1);
        Check.due("P8 what", x.runs(0, 2), Long.MIN_VALUE);
        Check.due("P8 what", x.runs(0, -1), Long.MIN_VALUE);
        Check.due("P10 what", x.calls(0, 2), -2);
        Check.due("P10 what", x.calls(0, -1), -2);
        Check.due("P11 no person", x.keeps(0, 3, 3), -1);
        Check.due("P11 no person", x.keeps(0, 0, -1), -1);
        Check.due("P11 both are one", x.keeps(0, 2, 2), -2);
        Check.due("P11 has not the number", x.keeps(0, 1, 0), -3);
        x.call(0, 1);
        Check.due("P11 the same secrets", x.keeps(0, 0, 1), -3);
        Check.due("P12 what", x.best(0, 2), -2);
    }
}
