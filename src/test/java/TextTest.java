/**
 * The FIRST FAULT of a TEXT (promise 2 and part 1 of the document's terms), sentence by sentence,
 * and then of every row of up to six codes.
 */
public final class TextTest {
    public static void main(String[] args) {
        oneToFourItems();
        anyNumberOfDigits();
        noneTwice();
        notItsOwn();
        codesBesideThoseAllowed();
        endsTooSoon();
        personsThatThereAreNot();
        strangersOnlyIfNothingElseIsWrong();
        firstOfSeveral();
        longestText();
        placesCountFromTheFirstCode();
        codesAheadAndBehindAreNotTaken();
        allShortRows();
        Check.finish();
    }

    private static void wrong(String text, int place) {
        CallRounds x = Check.withCalls("p1;p", "01");
        Check.faulted("P2 '" + text + "'", x, Check.tellNet(x, text), -100 - place, 0);
        Check.due("P2 the net stays, by '" + text + "'", x.many(0), 2);
        Check.due("P2 the call stays, by '" + text + "'", x.many(1), 1);
    }

    private static void right(String text, int persons, int... numbers) {
        CallRounds x = Check.withCalls("p1;p", "01");
        Check.faulted("P2 '" + text + "'", x, Check.tellNet(x, text), persons, 0);
        Check.due("P33 persons by '" + text + "'", x.many(0), persons);
        Check.due("P33 the call is gone, by '" + text + "'", x.many(1), 0);
        for (int p = 0; p < numbers.length; p++) {
            Check.due("P3 numbers of " + p + " by '" + text + "'", x.ofPerson(p, 2), numbers[p] | 1 << p);
        }
    }

    private static void oneToFourItems() {
        wrong("", 0);
        right("p", 1, 0);
        right("p;p", 2, 0, 0);
        right("p;p;p", 3, 0, 0, 0);
        right("p;p;p;p", 4, 0, 0, 0, 0);
        wrong("p;p;p;p;", 7);
        wrong("p;p;p;p;p", 7);
        wrong("p123;p023;p013;p012;p", 19);
    }

    private static void anyNumberOfDigits() {
        right("p1;p;p;p", 4, 2, 0, 0, 0);
        right("p13;p;p;p", 4, 10, 0, 0, 0);
        right("p132;p;p;p", 4, 14, 0, 0, 0);
        right("p321;p203;p310;p102", 4, 14, 13, 11, 7);
        right("p;p;p;p2", 4, 0, 0, 0, 4);
    }

    private static void noneTwice() {
        wrong("p11;p", 2);
        wrong("p1231;p;p;p", 4);
        wrong("p1233;p;p;p", 4);
        wrong("p;p00", 4);
        wrong("p;p;p;p0120", 10);
        right("p1;p0;p01;p01", 4, 2, 1, 3, 3);
    }

    private static void notItsOwn() {
        wrong("p0", 1);
        wrong("p10;p", 2);
        wrong("p;p1", 3);
        wrong("p;p;p2", 5);
        wrong("p;p;p;p3", 7);
        wrong("p;p;p;p0123", 10);
    }

    /** 112, 59 and 48 .. 51: the codes beside them, below 0, and those that would be one if cut. */
    private static void codesBesideThoseAllowed() {
        int[] codes = {47, 52, 58, 60, 111, 113, 0, -1, -112, 112 + 256, 59 + 256, 49 + 256, 112 + 65536, 49 - 256,
            Integer.MAX_VALUE, Integer.MIN_VALUE};
        for (int code : codes) {
            for (int at = 0; at < 3; at++) {
                CallRounds x = new CallRounds();
                x.sheet(0, 2, 3);
                x.put(0, 0, 'p');
                x.put(0, 1, ';');
                x.put(0, 2, 'p');
                Check.due("P2 without code " + code, x.net(0, 2, 0, 3), 2);
                x.put(0, at, code);
                Check.due("P2 code " + code + " at " + at, x.net(0, 2, 0, 3), -100 - at);
            }
        }
        wrong("p/;p", 1);
        wrong("p4;p", 1);
        wrong("p:p", 1);
        wrong("p<p", 1);
        wrong("o", 0);
        wrong("q", 0);
        wrong("P", 0);
        wrong("p p", 1);
    }

    private static void endsTooSoon() {
        wrong("", 0);
        wrong("p;", 2);
        wrong("p1;", 3);
        wrong("p;p;", 4);
        wrong("p;p;p;", 6);
        wrong("p123;p023;p013;", 15);
    }

    private static void personsThatThereAreNot() {
        wrong("p1", 1);
        wrong("p3", 1);
        wrong("p2;p", 1);
        wrong("p;p2", 3);
        wrong("p13;p0", 2);
        wrong("p;p;p3", 5);
        wrong("p12;p0;p3", 8);
        right("p1;p", 2, 2, 0);
        right("p2;p;p", 3, 4, 0, 0);
        right("p3;p;p;p", 4, 8, 0, 0, 0);
    }

    private static void strangersOnlyIfNothingElseIsWrong() {
        wrong("p3;p1", 4);
        wrong("p3;p;", 5);
        wrong("p3;", 3);
        wrong("p33;p", 2);
        wrong("p3;;", 3);
        wrong("p3p", 2);
        wrong("p2;p3;q", 6);
        wrong("p3;p;p;p;", 8);
    }

    private static void firstOfSeveral() {
        wrong("p32;p", 1);
        wrong("p123;p", 2);
        wrong("p2;p3", 1);
        wrong("p1;p3;p3", 4);
        wrong("p0;p1", 1);
        wrong("q;q", 0);
        wrong("p;0;p0", 2);
        wrong("p11;p11", 2);
    }

    private static void longestText() {
        String longest = "p123;p023;p013;p012";
        for (int ahead : new int[] {0, 1, 41}) {
            for (int lane = 0; lane < 3; lane++) {
                CallRounds x = new CallRounds();
                x.sheet(0, lane, 60);
                for (int i = 0; i < longest.length(); i++) x.put(0, ahead + i, longest.charAt(i));
                Check.due("P2 the longest text from " + ahead + " on", x.net(0, lane, ahead, 19), 4);
                Check.due("P33 as many numbers as there may be", x.many(3), 12);
                int more = ahead == 41 ? -13 : -119;
                Check.due("P2 a code more", x.net(0, lane, ahead, 20), more);
            }
        }
        CallRounds zeros = new CallRounds();
        zeros.sheet(0, 0, 60);
        Check.due("P2 60 codes, none of them one", zeros.net(0, 0, 0, 60), -100);
    }

    private static void placesCountFromTheFirstCode() {
        CallRounds x = new CallRounds();
        x.sheet(0, 0, 60);
        x.put(0, 56, 'p');
        x.put(0, 57, '1');
        x.put(0, 58, ';');
        x.put(0, 59, 'q');
        Check.due("P2 wrong at the last cell", x.net(0, 0, 56, 4), -103);
        Check.due("P2 ends too soon", x.net(0, 0, 56, 3), -103);
        Check.due("P2 a person that there is not", x.net(0, 0, 56, 2), -101);
        Check.due("P2 as it should be", x.net(0, 0, 56, 1), 1);
        Check.due("P2 no code at the end", x.net(0, 0, 60, 0), -100);
    }

    private static void codesAheadAndBehindAreNotTaken() {
        String cells = "3p1;p2";
        CallRounds x = new CallRounds();
        x.sheet(0, 0, cells.length());
        for (int i = 0; i < cells.length(); i++) x.put(0, i, cells.charAt(i));
        Check.due("P2 a text between digits", x.net(0, 0, 1, 4), 2);
        Check.due("P2 ends too soon between p's", x.net(0, 0, 1, 3), -103);
        Check.due("P2 a person that there is not, behind another", x.net(0, 0, 1, 2), -101);
        Check.due("P2 a p between digits", x.net(0, 0, 1, 1), 1);
        Check.due("P2 the digit ahead, taken", x.net(0, 0, 0, 5), -100);
        Check.due("P2 the digit behind, taken", x.net(0, 0, 1, 5), -104);
    }

    /** Rows of p ; 0 1 3 and a code that is none, against the Oracle; cells are put anew where they change. */
    private static void allShortRows() {
        String codes = "p;013x";
        for (int length = 1; length <= 6; length++) {
            int rows = 1;
            for (int i = 0; i < length; i++) rows *= codes.length();
            for (int row = 0; row < rows; row++) {
                StringBuilder text = new StringBuilder();
                for (int i = 0, rest = row; i < length; i++, rest /= codes.length()) text.append(codes.charAt(rest % codes.length()));
                // What follows a first code that is none makes no other row.
                if (text.charAt(0) != 'p' && length > 2) continue;
                int fault = Oracle.firstFault(text.toString());
                int items = text.toString().split(";").length;
                Check.due("P2 '" + text + "'", Check.tellNet(new CallRounds(), text.toString()), fault < 0 ? items : -100 - fault);
            }
        }
    }
}
