/** Promises 23 (sheet), 24 (lose), 25 (put), 26 (cell), 27 (copy) and 32 (fault). */
public final class SheetTest {
    private static final long LOST = Long.MIN_VALUE;

    public static void main(String[] args) {
        sheets();
        losing();
        lanes();
        cells();
        copies();
        copyFaults();
        faults();
        Check.finish();
    }

    private static void sheets() {
        CallRounds x = new CallRounds();
        Check.due("P23 empty row", x.sheet(0, 0, 0), 1);
        fault(x, "P23 empty row has no cell", x.put(0, 0, 1), 3);
        Check.due("P23 60 cells", x.sheet(3, 2, 60), 1);
        for (int i = 0; i < 60; i++) Check.due("P23 0 at first", x.cell(3, i, 2), 0);
        x.put(3, 59, 7);
        Check.due("P23 61 cells", x.sheet(3, 2, 61), -2);
        Check.due("P23 lane 3", x.sheet(3, 3, 1), -2);
        Check.due("P23 lane -1, ahead of size", x.sheet(3, -1, -1), -2);
        Check.due("P23 sheet 4", x.sheet(4, 3, 61), -1);
        Check.due("P23 sheet -1", x.sheet(-1, 0, 1), -1);
        fault(x, "P23 size", x.sheet(3, 0, -1), 4);
        fault(x, "P23 size", x.sheet(3, 0, Integer.MIN_VALUE), 4);
        Check.due("P23 refusals and faults change nothing", x.cell(3, 59, 2), 7);
        Check.due("P23 a new row", x.sheet(3, 2, 60), 1);
        Check.due("P23 a new row has 0", x.cell(3, 59, 2), 0);
    }

    private static void losing() {
        CallRounds x = new CallRounds();
        Check.due("P24 had nothing", x.lose(2), 0);
        x.sheet(2, 1, 3);
        Check.due("P24 had a row", x.lose(2), 1);
        Check.due("P24 has nothing", x.lose(2), 0);
        fault(x, "P24 nothing", x.put(2, 0, 0), 1);
        Check.due("P24 sheet 4", x.lose(4), -1);
        Check.due("P24 sheet -1", x.lose(-1), -1);
    }

    private static void lanes() {
        int[] values = {0, 1, -1, 127, 128, 255, 256, -128, -129, 32767, 32768, 65535, 65536, -32769,
            Integer.MAX_VALUE, Integer.MIN_VALUE, 70000};
        CallRounds x = new CallRounds();
        for (int lane = 0; lane < 3; lane++) x.sheet(lane, lane, 60);
        for (int v : values) {
            for (int lane = 0; lane < 3; lane++) Check.due("P25", x.put(lane, 59, v), 1);
            Check.due("P25 a byte of " + v, x.cell(0, 59, 0), (byte) v);
            Check.due("P25 a short of " + v, x.cell(1, 59, 1), (short) v);
            Check.due("P25 an int of " + v, x.cell(2, 59, 2), v);
        }
        Check.due("P25 the others stay", x.cell(2, 58, 2), 0);
    }

    private static void cells() {
        CallRounds x = new CallRounds();
        x.sheet(1, 1, 3);
        x.put(1, 2, 300);
        Check.due("P26", x.cell(1, 2, 1), 300);
        Check.due("P32 none", x.fault(), 0);
        lost(x, "P26 cast ahead of index", x.cell(1, 9, 0), 2);
        lost(x, "P26 cast", x.cell(1, 2, 2), 2);
        lost(x, "P26 nothing is no cast", x.cell(0, 9, 2), 1);
        lost(x, "P26 index 3", x.cell(1, 3, 1), 3);
        lost(x, "P26 index -1", x.cell(1, -1, 1), 3);
        lost(x, "P26 sheet 4", x.cell(4, 0, 1), 0);
        lost(x, "P26 index", x.cell(1, Integer.MIN_VALUE, 1), 3);
        lost(x, "P26 sheet -1", x.cell(-1, 0, 1), 0);
        lost(x, "P26 index", x.cell(1, Integer.MAX_VALUE, 1), 3);
        lost(x, "P26 lane 3", x.cell(0, 0, 3), 0);
        lost(x, "P26 null", x.cell(0, 0, 0), 1);
        lost(x, "P26 lane -1", x.cell(0, 0, -1), 0);
        fault(x, "P25 index 3", x.put(1, 3, 5), 3);
        fault(x, "P25 index -1", x.put(1, -1, 5), 3);
        fault(x, "P25 null ahead of index", x.put(0, -1, 5), 1);
        Check.due("P25 sheet 4", x.put(4, 0, 5), -1);
        Check.due("P25 sheet -1", x.put(-1, 0, 5), -1);
    }

    private static void copies() {
        CallRounds x = new CallRounds();
        for (int k = 0; k < 2; k++) x.sheet(k, 2, 6);
        for (int i = 0; i < 6; i++) x.put(0, i, 10 + i);
        Check.due("P27 three cells", x.copy(0, 1, 1, 2, 3), 3);
        row(x, 1, 0, 0, 11, 12, 13, 0);
        row(x, 0, 10, 11, 12, 13, 14, 15);
        Check.due("P27 on, as they were", x.copy(0, 0, 0, 1, 5), 5);
        row(x, 0, 10, 10, 11, 12, 13, 14);
        Check.due("P27 back, as they were", x.copy(0, 1, 0, 0, 5), 5);
        row(x, 0, 10, 11, 12, 13, 14, 14);
        Check.due("P27 none", x.copy(0, 6, 1, 6, 0), 0);
        Check.due("P27 all", x.copy(0, 0, 1, 0, 6), 6);
        row(x, 1, 10, 11, 12, 13, 14, 14);
    }

    private static void row(CallRounds x, int k, int... due) {
        for (int i = 0; i < due.length; i++) Check.due("P27 cell " + i, x.cell(k, i, 2), due[i]);
    }

    private static void copyFaults() {
        CallRounds x = new CallRounds();
        x.sheet(0, 0, 4);
        x.sheet(1, 1, 4);
        x.sheet(2, 0, 2);
        x.put(0, 0, 5);
        fault(x, "P27 null, the first", x.copy(3, 9, 1, 9, -1), 1);
        fault(x, "P27 null, the other", x.copy(0, 9, 3, 9, -1), 1);
        fault(x, "P27 null of both", x.copy(3, 0, 3, 0, 0), 1);
        fault(x, "P27 cast ahead of index", x.copy(0, 9, 1, 9, -1), 2);
        Check.due("P27 sheet 4", x.copy(4, 0, 0, 0, 1), -1);
        Check.due("P27 the other 4, ahead of null", x.copy(3, 0, 4, 0, 1), -1);
        Check.due("P27 sheet -1", x.copy(-1, 0, 0, 0, 1), -1);
        Check.due("P27 the other -1", x.copy(0, 0, -1, 0, 1), -1);
        int big = Integer.MAX_VALUE, low = Integer.MIN_VALUE;
        int[][] wrong = {{-1, 0, 1}, {0, -1, 1}, {0, 0, -1}, {3, 0, 2}, {0, 1, 2}, {0, 0, 3}, {5, 0, 0}, {0, 3, 0}, {-1, 0, 0}, {0, -1, 0},
            {big, 0, 1}, {0, big, 1}, {0, 0, big}, {big, big, big}, {1, 1, big}, {low, 0, 1}, {0, low, 1}, {0, 0, low}, {low, low, low}};
        for (int[] w : wrong) {
            fault(x, "P27 index " + w[0] + ", " + w[1] + ", " + w[2], x.copy(0, w[0], 2, w[1], w[2]), 3);
        }
        Check.due("P27 faults change nothing", x.cell(2, 0, 0), 0);
        Check.due("P27 as far as it goes", x.copy(0, 0, 2, 0, 2), 2);
        Check.due("P27 it went", x.cell(2, 0, 0), 5);
    }

    /** The calls that name faults, and those that do not. */
    private static void faults() {
        CallRounds x = Check.withCalls("p1;p", "01 01");
        for (int turn = 0; turn < 16; turn++) {
            fault(x, "P32", x.put(0, 0, 0), 1);
            switch (turn) {
                case 0: x.sheet(1, 0, 1); break;
                case 1: x.sheet(9, 0, 1); break;
                case 2: x.sheet(1, 0, 61); break;
                case 3: x.put(1, 0, 1); break;
                case 4: x.put(9, 0, 1); break;
                case 5: x.cell(1, 0, 0); break;
                case 6: x.cell(9, 0, 0); break;
                case 7: x.cell(1, 0, 9); break;
                case 8: x.copy(1, 0, 1, 0, 1); break;
                case 9: x.copy(9, 0, 1, 0, 1); break;
                case 10: x.net(1, 0, 0, 1); break;
                case 11: x.net(9, 0, 0, 1); break;
                case 12: x.net(1, 9, 0, 1); break;
                case 13: x.as(0, 0); break;
                case 14: x.as(9, 0); break;
                default: x.as(0, 9);
            }
            Check.due("P32 no fault, or refused: " + turn, x.fault(), 0);
        }
        fault(x, "P30", x.as(1, 2), 2);
        x.lose(0);
        x.lose(9);
        x.tell(9);
        x.log(0);
        x.call(0, 1);
        x.back();
        x.many(9);
        x.runs(9, 0);
        x.ofPerson(9, 0);
        x.ofCall(9, 0);
        x.trace();
        x.fault();
        Check.due("P32 these name none", x.fault(), 2);
    }

    private static void fault(CallRounds x, String what, int got, int which) {
        Check.due(what, got, -10 - which);
        Check.due(what + ", fault()", x.fault(), which);
    }

    private static void lost(CallRounds x, String what, long got, int which) {
        Check.due(what, got, LOST);
        Check.due(what + ", fault()", x.fault(), which);
    }
}
