/** Promises 1 to 3: a new object, what actions bring, the discount. */
public final class GameTest {
    public static void main(String[] args) {
        Due due = new Due();
        newObject(due);
        objectsShareNothing(due);
        pay(due);
        payRefused(due);
        discount(due);
        discountRefused(due);
        due.end();
    }

    /** Machines 0, 1, 2 of one state, each doing the action of its number. */
    private static AgainAgain threeSteady() {
        AgainAgain x = new AgainAgain();
        for (int a = 0; a < 3; a++) {
            x.machine(1);
            x.does(a, 0, a);
        }
        return x;
    }

    private static void newObject(Due due) {
        AgainAgain x = new AgainAgain();
        due.is("new: count(0)", x.count(0), 0);
        due.is("new: count(1)", x.count(1), 0);
        due.is("new: count(2)", x.count(2), 0);
        due.is("new: count(3)", x.count(3), -4);
        due.is("new: drop()", x.drop(), -4);
        for (int k = 0; k < 4; k++) {
            due.is("new: lay(" + k + ", 0, 0)", x.lay(k, 0, 0), -11);
            for (int lane = 0; lane < 3; lane++) {
                due.is("new: draw(" + k + ", " + lane + ", 0, 1)", x.draw(k, lane, 0, 1), -11);
            }
        }
        AgainAgain y = threeSteady();
        for (int a = 0; a < 3; a++) {
            for (int b = 0; b < 3; b++) {
                due.is("new: sum(" + a + ", " + b + ", 1)", y.sum(a, b, 1), 0);
            }
        }
        y.pay(0, 0, 1);
        due.is("new: the discount is 1 by 2", y.worth(0, 0, 0), 2);
        due.is("new: the discount is 1 by 2", y.worth(0, 0, 1), 1);
        due.is("BAD", AgainAgain.BAD, -1);
        due.is("STATE", AgainAgain.STATE, -2);
        due.is("FULL", AgainAgain.FULL, -3);
        due.is("NONE", AgainAgain.NONE, -4);
    }

    private static void objectsShareNothing(Due due) {
        AgainAgain x = threeSteady();
        x.pay(0, 0, 9);
        x.discount(3, 4);
        x.sheet(0, 0, 5);
        AgainAgain y = new AgainAgain();
        due.is("another object: count(0)", y.count(0), 0);
        due.is("another object: count(3)", y.count(3), -4);
        y.machine(1);
        due.is("another object: sum", y.sum(0, 0, 1), 0);
        y.pay(0, 0, 1);
        due.is("another object: worth", y.worth(0, 0, 0), 2);
        due.is("the first one keeps its pays", x.sum(0, 0, 1), 9);
        due.is("the first one keeps its discount", x.worth(0, 0, 0), 36);
    }

    private static void pay(Due due) {
        AgainAgain x = threeSteady();
        for (int a = 0; a < 3; a++) {
            for (int b = 0; b < 3; b++) {
                due.is("pay", x.pay(a, b, 10 * a + b - 7), 1);
            }
        }
        for (int a = 0; a < 3; a++) {
            for (int b = 0; b < 3; b++) {
                due.is("what " + a + " gets against " + b, x.sum(a, b, 1), 10 * a + b - 7);
            }
        }
        due.is("pay(2, 1, 50)", x.pay(2, 1, 50), 1);
        due.is("sum(2, 1, 1)", x.sum(2, 1, 1), 50);
        due.is("pay(2, 1, -50)", x.pay(2, 1, -50), 1);
        due.is("sum(2, 1, 1)", x.sum(2, 1, 1), -50);
        due.is("sum(1, 2, 1)", x.sum(1, 2, 1), 5);
        due.is("pay(2, 1, 0)", x.pay(2, 1, 0), 1);
        due.is("sum(2, 1, 1)", x.sum(2, 1, 1), 0);
    }

    private static void payRefused(Due due) {
        AgainAgain x = threeSteady();
        x.pay(0, 0, 3);
        x.pay(2, 2, 4);
        int[][] bad = {{-1, 0, 1}, {3, 0, 1}, {0, -1, 1}, {0, 3, 1}, {0, 0, 51}, {0, 0, -51}, {2, 2, 51},
            {Integer.MIN_VALUE, 0, 0}, {0, Integer.MAX_VALUE, 0}, {0, 0, Integer.MAX_VALUE},
            {0, 0, Integer.MIN_VALUE}};
        for (int[] b : bad) {
            due.is("pay(" + b[0] + ", " + b[1] + ", " + b[2] + ")", x.pay(b[0], b[1], b[2]), -1);
        }
        due.is("refused pays change nothing", x.sum(0, 0, 1), 3);
        due.is("refused pays change nothing", x.sum(2, 2, 1), 4);
        due.is("refused pays change nothing", x.sum(0, 2, 1), 0);
    }

    private static void discount(Due due) {
        AgainAgain x = threeSteady();
        x.pay(0, 0, 1);
        int[][] rates = {{1, 2, 2, 1}, {1, 3, 3, 2}, {2, 3, 3, 1}, {1, 4, 4, 3}, {2, 4, 2, 1}, {3, 4, 4, 1}};
        for (int[] r : rates) {
            String call = "discount(" + r[0] + ", " + r[1] + ")";
            due.is(call, x.discount(r[0], r[1]), 1);
            due.is(call + ": numerator", x.worth(0, 0, 0), r[2]);
            due.is(call + ": denominator", x.worth(0, 0, 1), r[3]);
        }
    }

    private static void discountRefused(Due due) {
        AgainAgain x = threeSteady();
        x.pay(0, 0, 1);
        x.discount(3, 4);
        int[][] bad = {{0, 2}, {2, 2}, {-1, 2}, {3, 2}, {0, 3}, {3, 3}, {0, 4}, {4, 4}, {1, 1}, {0, 1}, {1, 5},
            {4, 5}, {1, 0}, {-2, -1}, {1, Integer.MAX_VALUE}, {Integer.MIN_VALUE, Integer.MIN_VALUE},
            {Integer.MIN_VALUE, 2}};
        for (int[] b : bad) {
            due.is("discount(" + b[0] + ", " + b[1] + ")", x.discount(b[0], b[1]), -1);
        }
        due.is("refused discounts change nothing", x.worth(0, 0, 0), 4);
    }
}
