/** Promises 4 (call), 5 (ofCall) and 6 (back). */
public final class CallTest {
    public static void main(String[] args) {
        numbersAndKinds();
        newsThatOneLearns();
        wholeOfTwo();
        refusals();
        full();
        back();
        Check.finish();
    }

    private static void numbersAndKinds() {
        CallRounds x = Check.withNet("p12;p;p");
        Check.due("P4 the first", x.call(0, 1), 0);
        Check.due("P4 by a number just learnt", x.call(1, 2), 1);
        Check.due("P4 the third", x.call(0, 1), 2);
        Check.due("P4 nothing is learnt", x.call(1, 0), 3);
        int[][] due = {
            {1, 0, 1, 2, 1},
            {2, 1, 2, 4, 3},
            {2, 0, 1, 4, 0},
            {0, 1, 0, 0, 0}};
        for (int c = 0; c < due.length; c++) {
            for (int what = 0; what < 5; what++) Check.due("P5 of " + c + ": " + what, x.ofCall(c, what), due[c][what]);
        }
        Check.due("P5 call -1", x.ofCall(-1, 9), -1);
        Check.due("P5 call 4", x.ofCall(4, 9), -1);
        Check.due("P5 what -1", x.ofCall(0, -1), -2);
        Check.due("P5 what 5", x.ofCall(0, 5), -2);
    }

    private static void newsThatOneLearns() {
        CallRounds x = Check.withCalls("p1;p2;p;p", "01 12 01");
        Check.due("P5 one alone learns: news", x.ofCall(2, 0), 1);
        Check.due("P5 who rang learns", x.ofCall(2, 3), 4);
        Check.due("P5 who was rung learns nothing", x.ofCall(2, 4), 0);
    }

    private static void wholeOfTwo() {
        CallRounds x = Check.withCalls("p1;p", "01 01");
        Check.due("P5 both have all", x.ofCall(0, 0), 2);
        Check.due("P5 both had all", x.ofCall(1, 0), 0);
    }

    private static void refusals() {
        CallRounds x = new CallRounds();
        Check.due("P4 no persons", x.call(0, 0), -1);
        Check.due("P6 no calls", x.back(), -3);
        Check.tellNet(x, "p1;p;p");
        Check.due("P4 unknown", x.call(3, 3), -1);
        Check.due("P4 unknown", x.call(0, 3), -1);
        Check.due("P4 unknown", x.call(-1, 0), -1);
        Check.due("P4 both are one", x.call(1, 1), -2);
        Check.due("P4 not the number", x.call(1, 0), -3);
        Check.due("P4 refusals change nothing", x.many(1), 0);
        Check.due("P4 refusals change nothing", x.ofPerson(1, 0), 2);
        Check.due("P4 the other way it has", x.call(0, 1), 0);
        Check.due("P4 now it has", x.call(1, 0), 1);
    }

    private static void full() {
        CallRounds x = Check.withNet("p1;p;p");
        for (int c = 0; c < 12; c++) Check.due("P4 one more", x.call(0, 1), c);
        Check.due("P4 full", x.call(0, 1), -4);
        Check.due("P4 unknown ahead of full", x.call(0, 3), -1);
        Check.due("P4 outside ahead of full", x.call(0, 0), -2);
        Check.due("P4 state ahead of full", x.call(0, 2), -3);
        Check.due("P4 still 12", x.many(1), 12);
        Check.due("P8 runs go on where calls are full", x.runs(0, 0), 1);
        Check.due("P6 room again", x.back(), 11);
        Check.due("P4 room again", x.call(1, 0), 11);
    }

    private static void back() {
        CallRounds x = Check.withCalls("p12;p;p", "01 12");
        Check.due("P6 one is left", x.back(), 1);
        Check.due("P6 secrets", x.ofPerson(1, 0), 3);
        Check.due("P6 secrets", x.ofPerson(2, 0), 4);
        Check.due("P6 numbers", x.ofPerson(2, 1), 4);
        Check.due("P6 numbers", x.ofPerson(1, 1), 7);
        Check.due("P6 tokens", x.ofPerson(1, 4), 1);
        Check.due("P6 tokens", x.ofPerson(2, 5), 1);
        Check.due("P6 gone", x.ofCall(1, 0), -1);
        Check.due("P6 what one knows", x.known(0, 2), 4);
        Check.due("P6 none is left", x.back(), 0);
        Check.due("P6 none", x.back(), -3);
        Check.due("P6 numbers of the net", x.ofPerson(1, 1), 2);
        Check.due("P6 the net stays", x.many(0), 3);
        Check.due("P4 from 0 on again", x.call(0, 2), 0);
    }
}
