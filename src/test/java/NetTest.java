/** Promises 1 (a new object), 2 (net), 3 (ofPerson) and 33 (many). */
public final class NetTest {
    public static void main(String[] args) {
        newObject();
        textsThatAreOne();
        textsThatAreNone();
        textsInLanes();
        partsOfSheets();
        refusalsAndFaults();
        wrongTextChangesNothing();
        newNetForgetsCalls();
        persons();
        howMany();
        Check.finish();
    }

    private static void newObject() {
        CallRounds x = new CallRounds();
        for (int what = 0; what < 4; what++) Check.due("P1 many", x.many(what), 0);
        Check.due("P1 no person", x.ofPerson(0, 0), -1);
        Check.due("P1 no call", x.ofCall(0, 0), -1);
        Check.due("P1 trace", x.trace(), 0);
        Check.due("P1 fault", x.fault(), 0);
        for (int k = 0; k < 4; k++) {
            Check.due("P1 a sheet has nothing", x.lose(k), 0);
            Check.due("P1 a sheet has nothing", x.put(k, 0, 1), -11);
        }
    }

    private static void textsThatAreOne() {
        String[] texts = {"p", "p;p", "p1;p", "p1;p0", "p;p;p", "p21;p;p0", "p;p;p;p", "p3;p;p;p",
            "p123;p023;p013;p012", "p321;p302;p;p210"};
        int[] persons = {1, 2, 2, 2, 3, 3, 4, 4, 4, 4};
        for (int i = 0; i < texts.length; i++) {
            CallRounds x = new CallRounds();
            Check.due("P2 " + texts[i], Check.tellNet(x, texts[i]), persons[i]);
            Check.due("P2 fault() behind " + texts[i], x.fault(), 0);
        }
    }

    private static void textsThatAreNone() {
        String[] texts = {"", ";", "0", "q", "P", "pp", "p;", "p;;", "p;1", "p p", "p0", "p1;p1", "p;p1", "p11;p", "p1;p00",
            "p/", "p4", "p;p;p;p;", "p;p;p;p;p", "p;p;p;p3", "p;p;p3;p3", "p123;p023;p013;p0121",
            "p1", "p3;p;p", "p32;p;p", "p23;p;p", "p1;p;p3", "p3;", "p3;p;", "p3;p;q", "p3;p;p2", "p3;p1", "p;p2", "p2;p3"};
        int[] places = {0, 0, 0, 0, 0, 1, 2, 2, 2, 1, 1, 4, 3, 2, 5,
            1, 1, 7, 7, 7, 8, 19,
            1, 1, 1, 2, 6, 3, 5, 5, 6, 4, 3, 1};
        for (int i = 0; i < texts.length; i++) {
            CallRounds x = new CallRounds();
            Check.due("P2 '" + texts[i] + "'", Check.tellNet(x, texts[i]), -100 - places[i]);
            Check.due("P2 fault() behind '" + texts[i] + "'", x.fault(), 0);
            Check.due("P2 no persons by '" + texts[i] + "'", x.many(0), 0);
        }
    }

    private static void textsInLanes() {
        for (int lane = 0; lane < 3; lane++) {
            CallRounds x = new CallRounds();
            x.sheet(0, lane, 3);
            x.put(0, 0, 'p');
            x.put(0, 1, ';');
            x.put(0, 2, 'p' + 256);
            Check.due("P2 a code cut to a byte or not", x.net(0, lane, 0, 3), lane == 0 ? 2 : -102);
            x.put(0, 2, 'p' + 65536);
            Check.due("P2 a code cut to a short or not", x.net(0, lane, 0, 3), lane == 2 ? -102 : 2);
            x.put(0, 2, -'p');
            Check.due("P2 a code below 0", x.net(0, lane, 0, 3), -102);
        }
    }

    private static void partsOfSheets() {
        CallRounds x = new CallRounds();
        String cells = "xxp1;pzz";
        x.sheet(1, 1, cells.length());
        for (int i = 0; i < cells.length(); i++) x.put(1, i, cells.charAt(i));
        Check.due("P2 from i on", x.net(1, 1, 2, 4), 2);
        Check.due("P2 numbers from i on", x.ofPerson(0, 2), 3);
        Check.due("P2 places count from i on", x.net(1, 1, 2, 5), -104);
        Check.due("P2 the stranger's place, too", x.net(1, 1, 2, 2), -101);
        Check.due("P2 ends too soon", x.net(1, 1, 2, 3), -103);
        Check.due("P2 a single p", x.net(1, 1, 5, 1), 1);
        Check.due("P2 no cells at the end", x.net(1, 1, 8, 0), -100);
    }

    private static void refusalsAndFaults() {
        CallRounds x = new CallRounds();
        x.sheet(1, 1, 4);
        Check.due("P2 sheet 4", x.net(4, 3, 0, -1), -1);
        Check.due("P2 sheet -1", x.net(-1, 0, 0, 1), -1);
        Check.due("P2 lane 3", x.net(1, 3, 0, -1), -2);
        Check.due("P2 lane -1", x.net(0, -1, 0, 1), -2);
        fault(x, "P2 cast", x.net(1, 0, 9, -1), 2);
        fault(x, "P2 cast", x.net(1, 2, 0, 1), 2);
        fault(x, "P2 null", x.net(0, 0, 9, -1), 1);
        fault(x, "P2 size", x.net(1, 1, -1, -1), 4);
        fault(x, "P2 size", x.net(1, 1, 0, Integer.MIN_VALUE), 4);
        fault(x, "P2 index below", x.net(1, 1, -1, 1), 3);
        fault(x, "P2 index below, none taken", x.net(1, 1, -1, 0), 3);
        fault(x, "P2 index beyond, none taken", x.net(1, 1, 5, 0), 3);
        fault(x, "P2 index", x.net(1, 1, 0, 5), 3);
        fault(x, "P2 index", x.net(1, 1, 4, 1), 3);
        fault(x, "P2 index wraps", x.net(1, 1, 2, Integer.MAX_VALUE), 3);
        fault(x, "P2 index wraps", x.net(1, 1, Integer.MAX_VALUE, Integer.MAX_VALUE), 3);
        Check.due("P2 none taken at the end", x.net(1, 1, 4, 0), -100);
        Check.due("P32 a text's fault is none", x.fault(), 0);
    }

    private static void fault(CallRounds x, String what, int got, int which) {
        Check.due(what, got, -10 - which);
        Check.due(what + ", fault()", x.fault(), which);
    }

    private static void wrongTextChangesNothing() {
        CallRounds x = Check.withCalls("p1;p2;p", "01");
        Check.due("P2 a wrong text", Check.tellNet(x, "p1;p;"), -105);
        x.net(0, 0, 0, 1);
        x.net(7, 0, 0, 1);
        Check.due("P2 persons stay", x.many(0), 3);
        Check.due("P2 calls stay", x.many(1), 1);
        Check.due("P2 numbers stay", x.many(3), 2);
        Check.due("P2 secrets stay", x.ofPerson(0, 0), 3);
    }

    private static void newNetForgetsCalls() {
        CallRounds x = Check.withCalls("p1;p2;p", "01 12");
        x.tell(0);
        x.alike(0);
        x.mend(1, -1);
        Check.due("P2 told anew", Check.tellNet(x, "p1;p0"), 2);
        Check.due("P2 calls are gone", x.many(1), 0);
        Check.due("P2 calls are gone", x.ofCall(0, 0), -1);
        Check.due("P2 calls are gone", x.back(), -3);
        Check.due("P2 secrets are new", x.ofPerson(0, 0), 1);
        Check.due("P2 tokens are new", x.ofPerson(0, 4), 1);
        Check.due("P2 tokens are new", x.ofPerson(1, 5), 1);
        Check.due("P2 what one knows is new", x.known(0, 1), 2);
        Check.due("P2 what mends is new", x.mend(1, -1), 0);
        Check.due("P31 trace stays", x.trace(), 63);
    }

    private static void persons() {
        CallRounds x = Check.withCalls("p1;p2;p;p", "01 12");
        int[][] due = {
            {3, 7, 3, 0, 0, 1},
            {7, 7, 6, 0, 0, 0},
            {7, 7, 4, 0, 1, 0},
            {8, 8, 8, 0, 1, 1}};
        for (int p = 0; p < 4; p++) {
            for (int what = 0; what < 6; what++) Check.due("P3 of " + p + ": " + what, x.ofPerson(p, what), due[p][what]);
        }
        Check.due("P3 person -1", x.ofPerson(-1, 9), -1);
        Check.due("P3 person 4", x.ofPerson(4, 9), -1);
        Check.due("P3 what -1", x.ofPerson(0, -1), -2);
        Check.due("P3 what 6", x.ofPerson(0, 6), -2);
        CallRounds two = Check.withCalls("p1;p", "01");
        Check.due("P3 an expert", two.ofPerson(0, 3), 1);
        Check.due("P3 who rings has lost its token", two.ofPerson(0, 4), 0);
        Check.due("P3 who rings keeps its hub's token", two.ofPerson(0, 5), 1);
        Check.due("P3 who is rung has a token", two.ofPerson(1, 4), 1);
        Check.due("P3 who is rung has lost its hub's token", two.ofPerson(1, 5), 0);
        two.call(1, 0);
        Check.due("P3 a token comes back", two.ofPerson(0, 4), 1);
        Check.due("P3 who rings without a hub's token gets none", two.ofPerson(1, 5), 0);
        Check.due("P3 both hub's tokens are lost", two.ofPerson(0, 5), 0);
        Check.due("P3 one alone is an expert", Check.withNet("p").ofPerson(0, 3), 1);
    }

    private static void howMany() {
        CallRounds x = Check.withCalls("p12;p;p", "01 12");
        Check.due("P33 persons", x.many(0), 3);
        Check.due("P33 calls", x.many(1), 2);
        Check.due("P33 experts", x.many(2), 2);
        Check.due("P33 numbers in the net, not those learnt", x.many(3), 2);
        Check.due("P33 what -1", x.many(-1), -2);
        Check.due("P33 what 4", x.many(4), -2);
        Check.due("P33 numbers of all", Check.withNet("p123;p023;p013;p012").many(3), 12);
    }
}
