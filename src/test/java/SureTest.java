/** Promises 13 (alike), 14 (sure), 15 (known) and 16 (end). */
public final class SureTest {
    public static void main(String[] args) {
        noCalls();
        two();
        three();
        secretsTellApart();
        secretsBehindItTellApart();
        withWhomTellsApart();
        whoRangTellsApart();
        anyCallCounts();
        fourAndFive();
        refusals();
        Check.finish();
    }

    private static void noCalls() {
        CallRounds x = Check.withNet("p12;p;p");
        for (int p = 0; p < 3; p++) {
            Check.due("P13 the empty row", x.alike(p), 1);
            for (int q = 0; q < 3; q++) Check.due("P15 its own secret each", x.known(p, q), 1 << q);
            Check.due("P16 not all are experts", x.end(p), 0);
        }
        Check.due("P16 one alone", Check.withNet("p").end(0), 1);
        Check.due("P15 one alone", Check.withNet("p").known(0, 0), 1);
    }

    private static void two() {
        CallRounds x = Check.withCalls("p1;p0", "01");
        for (int p = 0; p < 2; p++) {
            Check.due("P13 both were in it", x.alike(p), 1);
            Check.due("P15 all", x.known(p, 1 - p), 3);
            Check.due("P16 all", x.end(p), 1);
        }
    }

    /** 0 saw its own call alone; the other one was of 1 and 2, whoever rang. */
    private static void three() {
        CallRounds x = Check.withCalls("p12;p02;p01", "01 12");
        Check.due("P13 one rang the other", x.alike(0), 2);
        Check.due("P15 of itself", x.known(0, 0), 3);
        Check.due("P15 of 1", x.known(0, 1), 7);
        Check.due("P15 of 2", x.known(0, 2), 7);
        Check.due("P14 of 2 and 0's secret", x.sure(0, 2, 0), 1);
        Check.due("P14 of itself and 2's secret", x.sure(0, 0, 2), 0);
        Check.due("P16 it is none itself", x.end(0), 0);
        Check.due("P13 2 saw the second", x.alike(2), 2);
        Check.due("P15 2 knows the first was theirs", x.known(2, 0), 3);
        x.call(0, 1);
        Check.due("P13 in all three", x.alike(1), 1);
        Check.due("P13 in the second alone", x.alike(2), 4);
        for (int p = 0; p < 3; p++) Check.due("P16 all are", x.end(p), 1);
    }

    /** 2 hears two secrets from 1, so 1 was rung ahead of it; one alone would tell the other thing. */
    private static void secretsTellApart() {
        CallRounds x = Check.withCalls("p1;p2;p3;p", "01 12");
        Check.due("P13 by the secrets it had", x.alike(2), 1);
        Check.due("P15 of 0", x.known(2, 0), 3);
        CallRounds y = Check.withCalls("p1;p2;p3;p", "23 12");
        Check.due("P15 of 0, not rung", y.known(1, 0), 1);
        Check.due("P15 of 3", y.known(1, 3), 12);
    }

    /** 0 may ring 1 or 3 first; 2, whom 1 rings then, can tell by the secrets it has behind it. */
    private static void secretsBehindItTellApart() {
        CallRounds x = Check.withCalls("p13;p2;p;p", "01 12");
        Check.due("P13 it has 0's secret", x.alike(2), 1);
        Check.due("P15 so 0 rang 1", x.known(2, 0), 3);
        Check.due("P15 and not 3", x.known(2, 3), 8);
        CallRounds y = Check.withCalls("p13;p2;p;p", "03 12");
        Check.due("P13 it has not 0's secret", y.alike(2), 1);
        Check.due("P15 so 0 rang 3", y.known(2, 0), 9);
        Check.due("P15 and 3 has it, too", y.known(2, 3), 9);
    }

    /** 1 and 3 have the same secrets as 0 rings one of them. */
    private static void withWhomTellsApart() {
        CallRounds x = Check.withCalls("p13;p3;p;p", "13 01");
        Check.due("P13 it was with 1", x.alike(0), 1);
        Check.due("P15 1 has its secret", x.known(0, 1), 11);
        Check.due("P15 3 has not", x.known(0, 3), 10);
        CallRounds y = Check.withCalls("p13;p3;p;p", "13 03");
        Check.due("P13 it was with 3", y.alike(0), 1);
        Check.due("P15 1 has not its secret", y.known(0, 1), 10);
        Check.due("P15 3 has", y.known(0, 3), 11);
    }

    private static void whoRangTellsApart() {
        CallRounds x = Check.withCalls("p1;p0;p", "10");
        Check.due("P13 it knows who rang", x.alike(0), 1);
        Check.due("P13 2 does not", x.alike(2), 2);
        Check.due("P15 2 knows that they rang all the same", x.known(2, 0), 3);
    }

    /** Rows are not kept to calls that bring news. */
    private static void anyCallCounts() {
        CallRounds x = Check.withCalls("p1;p0;p", "01 01 10");
        Check.due("P13 each of three either way", x.alike(2), 8);
        Check.due("P15 the first was theirs", x.known(2, 1), 3);
        CallRounds y = Check.withCalls("p1;p;p", "01 10");
        Check.due("P13 the first could be no other", y.alike(2), 2);
    }

    private static void fourAndFive() {
        CallRounds x = Check.withCalls("p123;p023;p013;p012", "01 01 01 01");
        Check.due("P13 four calls of three others, 6 ways each", x.alike(3), 1296);
        Check.due("P15 of 0, who need not have been in one", x.known(3, 0), 1);
        Check.due("P14", x.sure(3, 0, 1), 0);
        Check.due("P16", x.end(3), 0);
        Check.due("P13 in all four", x.alike(0), 1);
        x.call(0, 1);
        Check.due("P13 five", x.alike(0), -3);
        Check.due("P14 five", x.sure(0, 0, 0), -3);
        Check.due("P15 five", x.known(0, 0), -3);
        Check.due("P16 five", x.end(0), -3);
        Check.due("P13 unknown ahead of state", x.alike(4), -1);
        Check.due("P14 unknown ahead of state", x.sure(0, 0, 4), -1);
        Check.due("P15 unknown ahead of state", x.known(0, 4), -1);
        Check.due("P16 unknown ahead of state", x.end(4), -1);
        x.back();
        Check.due("P13 four again", x.alike(3), 1296);
    }

    private static void refusals() {
        CallRounds none = new CallRounds();
        Check.due("P13 nobody", none.alike(0), -1);
        Check.due("P14 nobody", none.sure(0, 0, 0), -1);
        Check.due("P15 nobody", none.known(0, 0), -1);
        Check.due("P16 nobody", none.end(0), -1);
        CallRounds x = Check.withNet("p1;p");
        for (int p : new int[] {-1, 2, Integer.MAX_VALUE, Integer.MIN_VALUE}) {
            Check.due("P13 no such person", x.alike(p), -1);
            Check.due("P14 no such person", x.sure(p, 0, 0), -1);
            Check.due("P14 no such other", x.sure(0, p, 0), -1);
            Check.due("P14 no such secret", x.sure(0, 0, p), -1);
            Check.due("P15 no such person", x.known(p, 0), -1);
            Check.due("P15 no such other", x.known(0, p), -1);
            Check.due("P16 no such person", x.end(p), -1);
        }
    }
}
