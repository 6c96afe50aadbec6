/** Promises 9 to 11: sheets, their cells, machines read of them. */
public final class SheetsTest {
    public static void main(String[] args) {
        Due due = new Due();
        sheet(due);
        sheetAnew(due);
        lay(due);
        lowestBits(due);
        draw(due);
        drawOrder(due);
        drawCells(due);
        drawFull(due);
        drawOfTheLastCells(due);
        due.end();
    }

    private static void sheet(Due due) {
        AgainAgain x = new AgainAgain();
        int[][] bad = {{-1, 0, 1}, {4, 0, 1}, {0, -1, 1}, {0, 3, 1}, {0, 0, 61}, {0, 0, Integer.MAX_VALUE},
            {4, 0, -1}, {0, 3, -1}, {Integer.MIN_VALUE, 0, 1}, {0, Integer.MAX_VALUE, 1}};
        for (int[] b : bad) {
            due.is("sheet(" + b[0] + ", " + b[1] + ", " + b[2] + ")", x.sheet(b[0], b[1], b[2]), -1);
        }
        due.is("sheet(0, 0, -1)", x.sheet(0, 0, -1), -14);
        due.is("sheet(0, 2, MIN)", x.sheet(0, 2, Integer.MIN_VALUE), -14);
        due.is("count(3) of nothing", x.count(3), -4);
        due.is("sheet(0, 0, 0)", x.sheet(0, 0, 0), 1);
        due.is("count(3) of no cells", x.count(3), 0);
        due.is("sheet(0, 1, 60)", x.sheet(0, 1, 60), 1);
        due.is("count(3)", x.count(3), 60);
        due.is("sheet(0, 1, 61)", x.sheet(0, 1, 61), -1);
        due.is("sheet(0, 1, -5)", x.sheet(0, 1, -5), -14);
        due.is("sheet(0, 4, 1)", x.sheet(0, 4, 1), -1);
        due.is("refused sheets change nothing", x.count(3), 60);
        due.is("refused sheets change nothing", x.draw(0, 1, 56, 1), 0);
        for (int k = 1; k < 4; k++) {
            due.is("sheet " + k, x.sheet(k, k - 1, 4), 1);
            due.is("its cells are 0", x.draw(k, k - 1, 0, 1), k);
        }
        due.is("sheet 0 is not the others", x.count(3), 60);
    }

    private static void sheetAnew(Due due) {
        AgainAgain x = new AgainAgain();
        x.sheet(1, 2, 8);
        Fixtures.layAll(x, 1, 0, 2, 0, 0, 0, 1, 0, 0, 0);
        due.is("sheet anew", x.sheet(1, 0, 4), 1);
        due.is("its lane is the new one", x.draw(1, 2, 0, 1), -13);
        due.is("its cells are 0", x.draw(1, 0, 0, 1), 0);
        due.is("its cells are 0", x.told(0, 0, 0), 0);
        due.is("it has the new size", x.lay(1, 4, 0), -12);
        x.sheet(1, 0, 8);
        due.is("cells beyond the shorter one are 0 too", x.draw(1, 0, 4, 1), 1);
        due.is("cells beyond the shorter one are 0 too", x.told(1, 0, 0), 0);
    }

    private static void lay(Due due) {
        AgainAgain x = new AgainAgain();
        due.is("lay(-1, 0, 0)", x.lay(-1, 0, 0), -1);
        due.is("lay(4, 0, 0)", x.lay(4, 0, 0), -1);
        due.is("lay(MIN, 0, 0)", x.lay(Integer.MIN_VALUE, 0, 0), -1);
        due.is("lay(3, 0, 0) of nothing", x.lay(3, 0, 0), -11);
        due.is("lay(3, -1, 0) of nothing", x.lay(3, -1, 0), -11);
        x.sheet(3, 1, 5);
        due.is("lay(3, 0, 7)", x.lay(3, 0, 7), 1);
        due.is("lay(3, 4, 7)", x.lay(3, 4, 7), 1);
        due.is("lay(3, 5, 7)", x.lay(3, 5, 7), -12);
        due.is("lay(3, -1, 7)", x.lay(3, -1, 7), -12);
        due.is("lay(3, MAX, 7)", x.lay(3, Integer.MAX_VALUE, 7), -12);
        due.is("lay(3, MIN, 7)", x.lay(3, Integer.MIN_VALUE, 7), -12);
        x.sheet(2, 0, 0);
        due.is("lay(2, 0, 0) of no cells", x.lay(2, 0, 0), -12);
        due.is("cell 0 is as laid", x.draw(3, 1, 0, 1), -20);
        due.is("cell 4 is as laid", x.draw(3, 1, 1, 1), -23);
        due.is("lay(3, 4, 0)", x.lay(3, 4, 0), 1);
        due.is("cell 4 is as laid", x.draw(3, 1, 1, 1), 0);
    }

    private static void lowestBits(Due due) {
        int[][] laid = {{0, 258, 2}, {0, -254, 2}, {0, 128, -1}, {0, 65536, 0}, {0, 255, -1}, {1, 258, -1},
            {1, 65538, 2}, {1, -65535, 1}, {1, 32768, -1}, {1, 65535, -1}, {2, 65538, -1}, {2, 256, -1}, {2, 2, 2},
            {2, Integer.MIN_VALUE, -1}, {1, Integer.MIN_VALUE, 0}, {0, Integer.MAX_VALUE, -1}};
        for (int[] l : laid) {
            AgainAgain x = new AgainAgain();
            String call = "lay(0, 0, " + l[1] + ") in lane " + l[0];
            x.sheet(0, l[0], 4);
            due.is(call, x.lay(0, 0, l[1]), 1);
            due.is(call + ": drawn", x.draw(0, l[0], 0, 1), l[2] < 0 ? -20 : 0);
            due.is(call + ": the action", x.told(0, 0, 0), l[2]);
        }
    }

    private static void draw(Due due) {
        for (int lane = 0; lane < 3; lane++) {
            AgainAgain x = new AgainAgain();
            x.machine(1);
            x.sheet(2, lane, 19);
            Fixtures.layAll(x, 2, 3, 2, 0, 1, 3, 1, 3, 2, 0, 0, 1, 1, 1, 2, 2, 3, 0);
            due.is("draw of four states", x.draw(2, lane, 3, 4), 1);
            int[][] rows = {{2, 0, 1, 3}, {1, 3, 2, 0}, {0, 1, 1, 1}, {2, 2, 3, 0}};
            for (int s = 0; s < 4; s++) {
                for (int what = 0; what < 4; what++) {
                    due.is("told(1, " + s + ", " + what + ")", x.told(1, s, what), rows[s][what]);
                }
            }
            due.is("four states", x.told(1, 4, 0), -1);
            due.is("draw of one state", x.draw(2, lane, 0, 1), -23);
            due.is("draw of the cells at the end", x.draw(2, lane, 15, 1), -21);
            due.is("draw over the end", x.draw(2, lane, 16, 1), -21);
            due.is("count(0)", x.count(0), 2);
            x.does(1, 0, 0);
            due.is("the sheet stays as laid", x.draw(2, lane, 3, 4), 2);
            due.is("the sheet stays as laid", x.told(2, 0, 0), 2);
        }
    }

    private static void drawOrder(Due due) {
        AgainAgain x = new AgainAgain();
        int[][] bad = {{-1, 0, 0, 1}, {4, 0, 0, 1}, {0, -1, 0, 1}, {0, 3, 0, 1}, {0, 0, 0, 0}, {0, 0, 0, 5},
            {0, 0, 0, -1}, {Integer.MAX_VALUE, 0, 0, 1}, {0, Integer.MIN_VALUE, 0, 1}, {0, 0, 0, Integer.MAX_VALUE}};
        for (int[] b : bad) {
            due.is("draw(" + b[0] + ", " + b[1] + ", " + b[2] + ", " + b[3] + ") of nothing",
                x.draw(b[0], b[1], b[2], b[3]), -1);
        }
        due.is("NULL is ahead of INDEX", x.draw(0, 0, -1, 1), -11);
        x.sheet(0, 1, 4);
        due.is("BAD is ahead of CAST", x.draw(0, 0, 0, 5), -1);
        due.is("CAST", x.draw(0, 0, 0, 1), -13);
        due.is("CAST", x.draw(0, 2, 0, 1), -13);
        due.is("CAST is ahead of INDEX", x.draw(0, 0, -1, 1), -13);
        x.lay(0, 0, 3);
        due.is("CAST is ahead of the cells", x.draw(0, 0, 0, 1), -13);
        due.is("a cell ahead of INDEX", x.draw(0, 1, 0, 2), -20);
        due.is("INDEX at once", x.draw(0, 1, -1, 1), -12);
        due.is("INDEX at once", x.draw(0, 1, 4, 1), -12);
        due.is("INDEX at once", x.draw(0, 1, Integer.MAX_VALUE, 4), -12);
        due.is("INDEX at once", x.draw(0, 1, Integer.MAX_VALUE - 3, 4), -12);
        due.is("INDEX at once", x.draw(0, 1, Integer.MIN_VALUE, 4), -12);
        due.is("INDEX behind good cells", x.draw(0, 1, 1, 1), -12);
        due.is("nothing was drawn", x.count(0), 0);
    }

    private static void drawCells(Due due) {
        for (int n = 1; n <= 4; n++) {
            for (int i = 0; i < 4 * n; i++) {
                AgainAgain x = new AgainAgain();
                int most = i % 4 == 0 ? 2 : n - 1;
                String cell = "of " + n + " states, cell " + i;
                x.sheet(0, 2, 60);
                x.lay(0, 5 + i, most);
                due.is(cell + " is " + most, x.draw(0, 2, 5, n), 0);
                due.is(cell + " as told", x.told(0, i / 4, i % 4), most);
                x.lay(0, 5 + i, most + 1);
                due.is(cell + " is " + (most + 1), x.draw(0, 2, 5, n), -20 - i);
                x.lay(0, 5 + i, -1);
                due.is(cell + " is -1", x.draw(0, 2, 5, n), -20 - i);
                x.lay(0, 4 + 4 * n, 9);
                due.is(cell + ": the first one counts", x.draw(0, 2, 5, n), -20 - i);
                due.is(cell + ": refused draws make no machine", x.count(0), 1);
            }
        }
    }

    private static void drawFull(Due due) {
        AgainAgain x = new AgainAgain();
        x.sheet(1, 0, 5);
        for (int m = 0; m < 12; m++) {
            due.is("draw of machine " + m, x.draw(1, 0, 0, 1), m);
        }
        due.is("one too many", x.draw(1, 0, 0, 1), -3);
        due.is("BAD is ahead of FULL", x.draw(1, 0, 0, 0), -1);
        due.is("NULL is ahead of FULL", x.draw(0, 0, 0, 1), -11);
        due.is("CAST is ahead of FULL", x.draw(1, 1, 0, 1), -13);
        due.is("INDEX is ahead of FULL", x.draw(1, 0, 2, 1), -12);
        x.lay(1, 4, 1);
        due.is("a cell is ahead of FULL", x.draw(1, 0, 1, 1), -23);
        due.is("FULL", x.draw(1, 0, 0, 1), -3);
        due.is("count(0)", x.count(0), 12);
        x.drop();
        due.is("room again", x.draw(1, 0, 0, 1), 11);
    }

    /** The last machine, of as many states as can be, of the last cells of the last sheet. */
    private static void drawOfTheLastCells(Due due) {
        AgainAgain x = new AgainAgain();
        x.sheet(3, 2, 60);
        x.lay(3, 59, 2);
        for (int m = 0; m < 12; m++) {
            due.is("draw(3, 2, 44, 4)", x.draw(3, 2, 44, 4), m);
            due.is("its last next state", x.told(m, 3, 3), 2);
            due.is("its last action", x.told(m, 3, 0), 0);
        }
        due.is("draw(3, 2, 45, 4)", x.draw(3, 2, 45, 4), -12);
        due.is("draw(3, 2, 44, 4)", x.draw(3, 2, 44, 4), -3);
    }
}
