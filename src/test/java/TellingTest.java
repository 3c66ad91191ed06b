/** Promises 28 (tell), 29 (log), 30 (as) and 31 (trace). */
public final class TellingTest {
    /** Calls: 0 news, 1 and 2 whole, 3 a call in which nothing is learnt. */
    private static CallRounds some() {
        return Check.withCalls("p12;p;p", "01 12 01 10");
    }

    public static void main(String[] args) {
        telling();
        logging();
        kinds();
        traceWraps();
        refusals();
        Check.finish();
    }

    private static void telling() {
        CallRounds x = some();
        Check.due("P28 news: 1, and 2 secrets", x.tell(0), 201);
        trace(x, 2, 1);
        x = some();
        Check.due("P28 whole: 12 and 3 secrets, and 12", x.tell(1), 324);
        trace(x, 3, 2, 1, 1);
        x = some();
        Check.due("P28 whole: 1 and a secret, and 1", x.tell(2), 102);
        trace(x, 3, 2, 1, 1);
        x = some();
        Check.due("P28 call: 10", x.tell(3), 10);
        trace(x, 1);
        Check.due("P28 told again", x.tell(3), 10);
        trace(x, 1, 1);
        x.tell(0);
        trace(x, 1, 1, 2, 1);
    }

    private static void logging() {
        CallRounds x = some();
        Check.due("P29 news: its number", x.log(0), 0);
        trace(x, 4);
        Check.due("P29 whole: its own", x.log(1), 70);
        trace(x, 4, 5);
        Check.due("P29 whole: its own", x.log(2), 70);
        Check.due("P29 call: its number", x.log(3), 3);
        trace(x, 4, 5, 5, 4);
        Check.due("P29 no secrets change", x.ofPerson(2, 0), 7);
        x.back();
        x.back();
        Check.due("P29 gone", x.log(2), -1);
        trace(x, 4, 5, 5, 4);
    }

    private static void kinds() {
        CallRounds x = some();
        int[] kind = {1, 2, 2, 0};
        for (int c = 0; c < 4; c++) {
            for (int as = 0; as < 3; as++) {
                boolean is = as <= kind[c];
                Check.due("P30 " + c + " as " + as, x.as(c, as), is ? 1 : -12);
                Check.due("P30 fault() of " + c + " as " + as, x.fault(), is ? 0 : 2);
            }
        }
        Check.due("P31 as() leaves nothing", x.trace(), 0);
    }

    private static void traceWraps() {
        CallRounds x = some();
        int due = 0;
        boolean below = false;
        for (int i = 0; i < 100; i++) {
            x.tell(1);
            for (int body : new int[] {3, 2, 1, 1}) due = 31 * due + body;
            Check.due("P31 wraps", x.trace(), due);
            below |= due < 0;
        }
        Check.isTrue("P31 it has wrapped", below);
    }

    private static void refusals() {
        CallRounds none = new CallRounds();
        Check.due("P28 none", none.tell(0), -1);
        Check.due("P29 none", none.log(0), -1);
        Check.due("P30 none", none.as(0, 0), -1);
        CallRounds x = some();
        for (int c : new int[] {-1, 4, 12, Integer.MAX_VALUE, Integer.MIN_VALUE}) {
            Check.due("P28 no call " + c, x.tell(c), -1);
            Check.due("P29 no call " + c, x.log(c), -1);
            Check.due("P30 no call " + c, x.as(c, 9), -1);
        }
        Check.due("P30 kind -1", x.as(0, -1), -2);
        Check.due("P30 kind 3", x.as(0, 3), -2);
        Check.due("P31 refusals leave nothing", x.trace(), 0);
    }

    private static void trace(CallRounds x, int... bodies) {
        int due = 0;
        for (int body : bodies) due = 31 * due + body;
        Check.due("P31 trace", x.trace(), due);
    }
}
