/** The edges of promises 9 to 11, in the document's order, a row for each; each row has an object of its own. */
public final class SheetEdgesTest {
    private static final int LEAST = Integer.MIN_VALUE;
    private static final int GREATEST = Integer.MAX_VALUE;

    private static final Due DUE = new Due();
    private static final Edges NEW = new Edges(DUE, AgainAgain::new);
    private static final Edges SOME = new Edges(DUE, Fixtures::someOfAll);
    private static final Edges ALL = new Edges(DUE, Fixtures::allFull);

    public static void main(String[] args) {
        sheetRefused();
        sheetMade();
        layRefused();
        layTaken();
        layLowestBits();
        drawBad();
        drawNull();
        drawCast();
        drawIndex();
        drawFirstMet();
        drawFull();
        drawNoActionNoState();
        drawGreatest();
        DUE.end();
    }

    private static void sheetRefused() {
        for (int k : Fixtures.outside(4)) {
            SOME.stays("9: no such sheet", -1, x -> x.sheet(k, 0, 1));
            SOME.stays("9: no such sheet, ahead of SIZE", -1, x -> x.sheet(k, 0, -1));
        }
        for (int lane : Fixtures.outside(3)) {
            SOME.stays("9: no such lane", -1, x -> x.sheet(0, lane, 1));
            SOME.stays("9: no such lane, ahead of SIZE", -1, x -> x.sheet(0, lane, -1));
        }
        for (int k = 0; k < 4; k++) {
            int sheet = k;
            for (int n : new int[] {61, GREATEST}) {
                SOME.stays("9: " + n + " cells are too many", -1, x -> x.sheet(sheet, 1, n));
            }
            for (int n : new int[] {-1, LEAST}) {
                SOME.stays("9: " + n + " is a SIZE", -14, x -> x.sheet(sheet, 1, n));
            }
        }
    }

    private static void sheetMade() {
        for (int k = 0; k < 4; k++) {
            int sheet = k;
            for (int lane = 0; lane < 3; lane++) {
                int of = lane;
                SOME.is("9: 60 cells", 1, x -> x.sheet(sheet, of, 60));
                SOME.is("9: the 60th is there", 1, x -> x.sheet(sheet, of, 60), x -> x.lay(sheet, 59, 0));
                SOME.is("9: no 61st is there", -12, x -> x.sheet(sheet, of, 60), x -> x.lay(sheet, 60, 0));
                SOME.is("9: no cells", 1, x -> x.sheet(sheet, of, 0));
                SOME.is("9: no cells are not nothing", -12, x -> x.sheet(sheet, of, 0), x -> x.lay(sheet, 0, 0));
                SOME.is("9: a new row is of 0", 0, x -> x.sheet(sheet, of, 4), x -> x.draw(sheet, of, 0, 1),
                    x -> x.told(4, 0, 0));
                SOME.is("9: a new row has the new lane", -13, x -> x.sheet(sheet, of, 4),
                    x -> x.draw(sheet, (of + 1) % 3, 0, 1));
            }
        }
        SOME.is("9: 0 are counted", 0, x -> x.sheet(0, 0, 0), x -> x.count(3));
        SOME.is("9: 60 are counted", 60, x -> x.sheet(0, 2, 60), x -> x.count(3));
        SOME.is("9: the others stay", 9, x -> x.sheet(1, 0, 60), x -> x.sheet(2, 0, 60), x -> x.count(3));
        SOME.is("9: a row anew is of 0 behind a shorter one too", 4, x -> x.sheet(0, 0, 0), x -> x.sheet(0, 0, 9),
            x -> x.draw(0, 0, 5, 1));
    }

    private static void layRefused() {
        int[] sizes = {9, 5, 0};
        for (int k : Fixtures.outside(4)) {
            SOME.stays("10: no such sheet", -1, x -> x.lay(k, 0, 1));
            SOME.stays("10: no such sheet, ahead of INDEX", -1, x -> x.lay(k, -1, 1));
        }
        SOME.stays("10: NULL", -11, x -> x.lay(3, 0, 1));
        SOME.stays("10: NULL, ahead of INDEX", -11, x -> x.lay(3, -1, 1));
        SOME.stays("10: NULL, ahead of INDEX", -11, x -> x.lay(3, 60, 1));
        for (int k = 0; k < 3; k++) {
            int sheet = k;
            for (int i : Fixtures.outside(sizes[k])) {
                SOME.stays("10: INDEX " + i + " of " + sizes[k], -12, x -> x.lay(sheet, i, 1));
            }
            SOME.stays("10: INDEX 59 of " + sizes[k], -12, x -> x.lay(sheet, 59, 1));
            SOME.stays("10: INDEX 60: not the next sheet's first cell", -12, x -> x.lay(sheet, 60, 1));
        }
        SOME.stays("10: INDEX -60: not the first cell of the sheet ahead", -12, x -> x.lay(1, -60, 1));
    }

    private static void layTaken() {
        SOME.is("10: the first cell", 1, x -> x.lay(0, 0, 3));
        SOME.is("10: the first cell is as laid", -20, x -> x.lay(0, 0, 3), x -> x.draw(0, 0, 0, 2));
        SOME.is("10: the last of 9", 1, x -> x.lay(0, 8, 1));
        SOME.is("10: the last of 5", 1, x -> x.lay(1, 4, 0));
        SOME.is("10: the last cell is as laid", 4, x -> x.lay(1, 4, 0), x -> x.draw(1, 1, 1, 1));
        SOME.is("10: the cell ahead of it stays", -12, x -> x.lay(1, 4, 0), x -> x.draw(1, 1, 3, 1));
    }

    /** {lane, what is laid, the action drawn of it, or -1 if it is none}. */
    private static void layLowestBits() {
        int[][] rows = {{0, 127, -1}, {0, 128, -1}, {0, 255, -1}, {0, 256, 0}, {0, 257, 1}, {0, 258, 2},
            {0, 259, -1}, {0, -1, -1}, {0, -128, -1}, {0, -129, -1}, {0, -254, 2}, {0, -255, 1}, {0, -256, 0},
            {0, 65536, 0}, {0, LEAST, 0}, {0, LEAST + 2, 2}, {0, GREATEST, -1},
            {1, 256, -1}, {1, 32767, -1}, {1, 32768, -1}, {1, 65535, -1}, {1, 65536, 0}, {1, 65538, 2},
            {1, 65539, -1}, {1, -1, -1}, {1, -32768, -1}, {1, -65534, 2}, {1, -65536, 0}, {1, LEAST, 0},
            {1, LEAST + 1, 1}, {1, GREATEST, -1},
            {2, 0, 0}, {2, 2, 2}, {2, 3, -1}, {2, 256, -1}, {2, 65536, -1}, {2, -1, -1}, {2, LEAST, -1},
            {2, LEAST + 1, -1}, {2, GREATEST, -1}};
        for (int[] row : rows) {
            String of = "10: " + row[1] + " in lane " + row[0];
            SOME.is(of, row[2] < 0 ? -20 : 4, x -> x.sheet(3, row[0], 4), x -> x.lay(3, 0, row[1]),
                x -> x.draw(3, row[0], 0, 1));
            if (row[2] >= 0) {
                SOME.is(of + " is " + row[2], row[2], x -> x.sheet(3, row[0], 4), x -> x.lay(3, 0, row[1]),
                    x -> x.draw(3, row[0], 0, 1), x -> x.told(4, 0, 0));
            }
        }
    }

    private static void drawBad() {
        for (int k : Fixtures.outside(4)) {
            SOME.stays("11: no such sheet", -1, x -> x.draw(k, 0, 0, 1));
        }
        for (int lane : Fixtures.outside(3)) {
            SOME.stays("11: no such lane, ahead of CAST", -1, x -> x.draw(0, lane, 0, 1));
            SOME.stays("11: no such lane, ahead of NULL", -1, x -> x.draw(3, lane, 0, 1));
        }
        for (int n : new int[] {0, 5, -1, LEAST, GREATEST}) {
            SOME.stays("11: n " + n + " is none of 1 to 4", -1, x -> x.draw(0, 0, 0, n));
            SOME.stays("11: n " + n + ", ahead of NULL", -1, x -> x.draw(3, 0, 0, n));
            SOME.stays("11: n " + n + ", ahead of CAST", -1, x -> x.draw(0, 1, 0, n));
            SOME.stays("11: n " + n + ", ahead of INDEX", -1, x -> x.draw(2, 2, 0, n));
            SOME.stays("11: n " + n + ", ahead of a cell", -1, x -> x.draw(0, 0, 8, n));
        }
    }

    private static void drawNull() {
        for (int lane = 0; lane < 3; lane++) {
            int as = lane;
            SOME.stays("11: NULL, as of lane " + lane, -11, x -> x.draw(3, as, 0, 1));
            SOME.stays("11: NULL, ahead of INDEX", -11, x -> x.draw(3, as, -1, 1));
        }
    }

    private static void drawCast() {
        for (int lane = 0; lane < 3; lane++) {
            for (int k = 0; k < 3; k++) {
                int as = lane;
                int sheet = k;
                if (k != lane) {
                    SOME.stays("11: CAST of " + k + " as of " + lane, -13, x -> x.draw(sheet, as, 0, 1));
                    SOME.stays("11: CAST, ahead of INDEX", -13, x -> x.draw(sheet, as, 60, 1));
                    SOME.stays("11: CAST, ahead of a cell", -13, x -> x.draw(sheet, as, 4, 1));
                }
            }
        }
    }

    private static void drawIndex() {
        for (int f : new int[] {-1, -4, 9, 60, LEAST, GREATEST, GREATEST - 1, GREATEST - 15}) {
            SOME.stays("11: INDEX " + f + " at once", -12, x -> x.draw(0, 0, f, 4));
        }
        SOME.stays("11: INDEX, of no cells", -12, x -> x.draw(2, 2, 0, 1));
        for (int n = 1; n <= 4; n++) {
            int states = n;
            NEW.stays("11: INDEX, one cell too few for " + n, -12, x -> x.sheet(1, 1, 4 * states - 1),
                x -> x.draw(1, 1, 0, states));
            NEW.stays("11: INDEX, one cell too far for " + n, -12, x -> x.sheet(1, 1, 4 * states),
                x -> x.draw(1, 1, 1, states));
            NEW.is("11: just enough cells for " + n, 0, x -> x.sheet(1, 1, 4 * states),
                x -> x.draw(1, 1, 0, states));
            NEW.is("11: the last cells of 60 for " + n, 0, x -> x.sheet(1, 1, 60),
                x -> x.draw(1, 1, 60 - 4 * states, states));
            NEW.is("11: not behind the last cells of 60 for " + n, -12, x -> x.sheet(1, 1, 60),
                x -> x.draw(1, 1, 61 - 4 * states, states));
        }
    }

    /** Sheet 1 is of 2, 0, 0, 0, 1. */
    private static void drawFirstMet() {
        SOME.stays("11: a cell that is no state, of one", -23, x -> x.draw(1, 1, 1, 1));
        SOME.stays("11: a cell that is no action, then INDEX", -20, x -> x.lay(1, 4, 3), x -> x.draw(1, 1, 4, 1));
        SOME.stays("11: a cell that is no state, then INDEX", -22, x -> x.draw(1, 1, 2, 1));
        SOME.stays("11: INDEX, then none", -12, x -> x.draw(1, 1, 5, 1));
        SOME.stays("11: INDEX behind good cells", -12, x -> x.draw(1, 1, 0, 2));
        SOME.stays("11: of two bad cells the first", -21, x -> x.lay(1, 1, 7), x -> x.lay(1, 3, 7),
            x -> x.draw(1, 1, 0, 1));
    }

    private static void drawFull() {
        ALL.stays("11: BAD is ahead of FULL", -1, x -> x.draw(0, 0, 0, 5));
        ALL.stays("11: NULL is ahead of FULL", -11, x -> x.draw(3, 0, 0, 1));
        ALL.stays("11: CAST is ahead of FULL", -13, x -> x.draw(0, 2, 0, 1));
        ALL.stays("11: INDEX is ahead of FULL", -12, x -> x.draw(2, 2, 0, 1));
        ALL.stays("11: a cell is ahead of FULL", -20, x -> x.draw(0, 0, 8, 1));
        ALL.stays("11: FULL", -3, x -> x.draw(0, 0, 0, 2));
        ALL.is("11: the 12th", 11, x -> x.drop(), x -> x.draw(0, 0, 0, 2));
        ALL.is("11: the 12th is as drawn", 2, x -> x.drop(), x -> x.draw(0, 0, 0, 2), x -> x.told(11, 1, 0));
    }

    private static void drawNoActionNoState() {
        for (int n = 1; n <= 4; n++) {
            int states = n;
            for (int i = 0; i < 4 * n; i++) {
                int cell = i;
                int most = i % 4 == 0 ? 2 : n - 1;
                for (int v : new int[] {-1, most + 1, LEAST, GREATEST}) {
                    NEW.stays("11: of " + n + " states, cell " + i + " is " + v, -20 - i,
                        x -> x.sheet(3, 2, 4 * states), x -> x.lay(3, cell, v), x -> x.draw(3, 2, 0, states));
                }
            }
        }
    }

    private static void drawGreatest() {
        for (int n = 1; n <= 4; n++) {
            int states = n;
            int f = 60 - 4 * n;
            for (int i = 0; i < 4 * n; i++) {
                int cell = i;
                int most = i % 4 == 0 ? 2 : n - 1;
                NEW.is("11: of " + n + " states, cell " + i + " is " + most, most, x -> x.sheet(3, 2, 60),
                    x -> x.lay(3, f + cell, most), x -> x.draw(3, 2, f, states),
                    x -> x.told(0, cell / 4, cell % 4));
            }
        }
    }
}
