/** Promises 4 to 8: machines, what they do, where they go, what is told of them, the latest one goes. */
public final class MachinesTest {
    public static void main(String[] args) {
        Due due = new Due();
        machine(due);
        full(due);
        does(due);
        goes(due);
        told(due);
        drop(due);
        due.end();
    }

    private static void fresh(Due due, AgainAgain x, int m, int states) {
        for (int s = 0; s < states; s++) {
            due.is("fresh: told(" + m + ", " + s + ", 0)", x.told(m, s, 0), 0);
            for (int a = 0; a < 3; a++) {
                due.is("fresh: told(" + m + ", " + s + ", " + (1 + a) + ")", x.told(m, s, 1 + a), s);
            }
        }
        due.is("fresh: no state more", x.told(m, states, 0), -1);
    }

    private static void machine(Due due) {
        AgainAgain x = new AgainAgain();
        int[] bad = {0, 5, -1, Integer.MIN_VALUE, Integer.MAX_VALUE};
        for (int n : bad) {
            due.is("machine(" + n + ")", x.machine(n), -1);
        }
        due.is("refused machines are none", x.count(0), 0);
        for (int n = 1; n <= 4; n++) {
            due.is("machine(" + n + ")", x.machine(n), n - 1);
            due.is("count(0)", x.count(0), n);
            fresh(due, x, n - 1, n);
        }
    }

    private static void full(Due due) {
        AgainAgain x = new AgainAgain();
        for (int m = 0; m < 12; m++) {
            due.is("machine " + m, x.machine(1 + m % 4), m);
        }
        due.is("a machine too many", x.machine(1), -3);
        due.is("a machine too many", x.machine(4), -3);
        due.is("BAD is ahead of FULL", x.machine(0), -1);
        due.is("BAD is ahead of FULL", x.machine(5), -1);
        due.is("count(0)", x.count(0), 12);
        fresh(due, x, 11, 4);
        due.is("drop()", x.drop(), 11);
        due.is("room again", x.machine(2), 11);
        fresh(due, x, 11, 2);
        due.is("full again", x.machine(2), -3);
    }

    private static void does(Due due) {
        AgainAgain x = new AgainAgain();
        due.is("does without machines", x.does(0, 0, 0), -1);
        x.machine(2);
        x.machine(4);
        for (int a = 2; a >= 0; a--) {
            due.is("does(1, 3, " + a + ")", x.does(1, 3, a), 1);
            due.is("told(1, 3, 0)", x.told(1, 3, 0), a);
        }
        due.is("does(0, 1, 2)", x.does(0, 1, 2), 1);
        int[][] bad = {{-1, 0, 0}, {2, 0, 0}, {0, -1, 0}, {0, 2, 0}, {1, 4, 0}, {0, 1, -1}, {0, 1, 3},
            {Integer.MAX_VALUE, 0, 0}, {0, Integer.MAX_VALUE, 0}, {0, Integer.MIN_VALUE, 0},
            {0, 1, Integer.MAX_VALUE}, {0, 1, Integer.MIN_VALUE}};
        for (int[] b : bad) {
            due.is("does(" + b[0] + ", " + b[1] + ", " + b[2] + ")", x.does(b[0], b[1], b[2]), -1);
        }
        due.is("told(0, 0, 0)", x.told(0, 0, 0), 0);
        due.is("told(0, 1, 0)", x.told(0, 1, 0), 2);
        due.is("told(1, 0, 0)", x.told(1, 0, 0), 0);
    }

    private static void goes(Due due) {
        AgainAgain x = new AgainAgain();
        due.is("goes without machines", x.goes(0, 0, 0, 0), -1);
        x.machine(3);
        x.machine(4);
        for (int s = 0; s < 3; s++) {
            for (int a = 0; a < 3; a++) {
                due.is("goes(0, " + s + ", " + a + ")", x.goes(0, s, a, (s + a) % 3), 1);
            }
        }
        due.is("goes(1, 3, 2, 0)", x.goes(1, 3, 2, 0), 1);
        int[][] bad = {{-1, 0, 0, 0}, {2, 0, 0, 0}, {0, -1, 0, 0}, {0, 3, 0, 0}, {0, 0, -1, 0}, {0, 0, 3, 0},
            {0, 0, 0, -1}, {0, 0, 0, 3}, {1, 4, 0, 0}, {1, 0, 0, 4}, {Integer.MIN_VALUE, 0, 0, 0},
            {0, Integer.MAX_VALUE, 0, 0}, {0, 0, Integer.MAX_VALUE, 0}, {0, 0, 0, Integer.MAX_VALUE},
            {0, 0, 0, Integer.MIN_VALUE}};
        for (int[] b : bad) {
            due.is("goes(" + b[0] + ", " + b[1] + ", " + b[2] + ", " + b[3] + ")",
                x.goes(b[0], b[1], b[2], b[3]), -1);
        }
        for (int s = 0; s < 3; s++) {
            for (int a = 0; a < 3; a++) {
                due.is("told(0, " + s + ", " + (1 + a) + ")", x.told(0, s, 1 + a), (s + a) % 3);
            }
        }
        due.is("told(1, 3, 1)", x.told(1, 3, 1), 3);
        due.is("told(1, 3, 2)", x.told(1, 3, 2), 3);
        due.is("told(1, 3, 3)", x.told(1, 3, 3), 0);
        due.is("told(1, 0, 1)", x.told(1, 0, 1), 0);
    }

    private static void told(Due due) {
        AgainAgain x = new AgainAgain();
        due.is("told without machines", x.told(0, 0, 0), -1);
        x.machine(2);
        x.does(0, 1, 2);
        x.goes(0, 1, 1, 0);
        due.is("told(0, 1, 0)", x.told(0, 1, 0), 2);
        due.is("told(0, 1, 1)", x.told(0, 1, 1), 1);
        due.is("told(0, 1, 2)", x.told(0, 1, 2), 0);
        due.is("told(0, 1, 3)", x.told(0, 1, 3), 1);
        int[][] bad = {{-1, 0, 0}, {1, 0, 0}, {0, -1, 0}, {0, 2, 0}, {0, 0, -1}, {0, 0, 4},
            {Integer.MAX_VALUE, 0, 0}, {0, Integer.MAX_VALUE, 0}, {0, 0, Integer.MAX_VALUE},
            {0, 0, Integer.MIN_VALUE}};
        for (int[] b : bad) {
            due.is("told(" + b[0] + ", " + b[1] + ", " + b[2] + ")", x.told(b[0], b[1], b[2]), -1);
        }
    }

    private static void drop(Due due) {
        AgainAgain x = new AgainAgain();
        due.is("drop of none", x.drop(), -4);
        due.is("count(0)", x.count(0), 0);
        x.machine(1);
        x.machine(3);
        x.does(0, 0, 1);
        x.does(1, 2, 2);
        x.goes(1, 2, 0, 0);
        due.is("drop()", x.drop(), 1);
        due.is("the dropped one is gone", x.told(1, 0, 0), -1);
        due.is("the other one stays", x.told(0, 0, 0), 1);
        due.is("count(0)", x.count(0), 1);
        due.is("its number comes again", x.machine(4), 1);
        fresh(due, x, 1, 4);
        due.is("drop()", x.drop(), 1);
        due.is("drop()", x.drop(), 0);
        due.is("drop()", x.drop(), -4);
        due.is("drop()", x.drop(), -4);
        due.is("machine(1)", x.machine(1), 0);
        fresh(due, x, 0, 1);
    }
}
