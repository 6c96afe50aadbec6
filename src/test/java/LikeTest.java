/** Promises 18 and 19: machines that are like, the smallest of each. */
public final class LikeTest {
    public static void main(String[] args) {
        Due due = new Due();
        likeOfOneState(due);
        likeOfManyStates(due);
        deepDifference(due);
        smallest(due);
        smallestOfReachedStates(due);
        wrongMachines(due);
        due.end();
    }

    private static void likeBothWays(Due due, AgainAgain x, int i, int j, int want) {
        due.is("like(" + i + ", " + j + ")", x.like(i, j), want);
        due.is("like(" + j + ", " + i + ")", x.like(j, i), want);
    }

    private static void likeOfOneState(Due due) {
        AgainAgain x = new AgainAgain();
        Fixtures.steady(x, 0);
        Fixtures.steady(x, 0);
        Fixtures.steady(x, 2);
        likeBothWays(due, x, 0, 1, 1);
        likeBothWays(due, x, 0, 2, 0);
        due.is("like(2, 2)", x.like(2, 2), 1);
        due.is("pays do not count", x.pay(0, 0, 5), 1);
        likeBothWays(due, x, 0, 1, 1);
    }

    /** Tit for tat in four states, two helping and two taking, is like that of two. */
    private static void likeOfManyStates(Due due) {
        AgainAgain x = new AgainAgain();
        Fixtures.titForTat(x);
        x.machine(4);
        x.does(1, 2, 1);
        x.does(1, 3, 1);
        int[][] rows = {{1, 2, 0}, {0, 3, 1}, {1, 3, 3}, {0, 2, 2}};
        for (int s = 0; s < 4; s++) {
            for (int a = 0; a < 3; a++) {
                x.goes(1, s, a, rows[s][a]);
            }
        }
        likeBothWays(due, x, 0, 1, 1);
        due.is("smallest(0)", x.smallest(0), 2);
        due.is("smallest(1)", x.smallest(1), 2);
        x.does(1, 3, 2);
        likeBothWays(due, x, 0, 1, 0);
        due.is("what leads to unlike ones is unlike", x.smallest(1), 4);
        x.does(1, 3, 1);
        x.goes(1, 3, 2, 0);
        likeBothWays(due, x, 0, 1, 0);
        due.is("no two states are like", x.smallest(1), 4);
    }

    /** Rows of four states that differ in the last one alone. */
    private static void deepDifference(Due due) {
        AgainAgain x = new AgainAgain();
        for (int m = 0; m < 2; m++) {
            x.machine(4);
            for (int s = 0; s < 3; s++) {
                x.goes(m, s, s, s + 1);
            }
            x.does(m, 3, 2 * m);
        }
        likeBothWays(due, x, 0, 1, 0);
        due.is("smallest(0)", x.smallest(0), 1);
        due.is("smallest(1)", x.smallest(1), 4);
        x.goes(1, 1, 1, 1);
        likeBothWays(due, x, 0, 1, 1);
        due.is("a state that never comes does not count", x.smallest(1), 1);
    }

    private static void smallest(Due due) {
        AgainAgain x = new AgainAgain();
        for (int n = 1; n <= 4; n++) {
            int m = x.machine(n);
            for (int s = 0; s < n; s++) {
                x.goes(m, s, 2, (s + 1) % n);
            }
            due.is("all states the same", x.smallest(m), 1);
            x.does(m, n - 1, 1);
            due.is("a ring of " + n + " with one mark", x.smallest(m), n);
        }
        x.does(3, 1, 1);
        due.is("two marks in a ring of 4", x.smallest(3), 2);
        due.is("it keeps its states", x.told(3, 3, 0), 1);
    }

    private static void smallestOfReachedStates(Due due) {
        AgainAgain x = new AgainAgain();
        x.machine(4);
        x.does(0, 1, 1);
        x.does(0, 2, 2);
        due.is("no state but the first is reached", x.smallest(0), 1);
        x.goes(0, 3, 0, 1);
        due.is("from an unreached one none is", x.smallest(0), 1);
        x.goes(0, 0, 0, 3);
        due.is("0, 3, 1 are reached", x.smallest(0), 3);
        x.goes(0, 1, 1, 2);
        due.is("all are reached", x.smallest(0), 4);
        x.does(0, 1, 0);
        x.does(0, 2, 0);
        due.is("all are like", x.smallest(0), 1);
    }

    private static void wrongMachines(Due due) {
        AgainAgain x = new AgainAgain();
        due.is("like without machines", x.like(0, 0), -1);
        due.is("smallest without machines", x.smallest(0), -1);
        Fixtures.steady(x, 0);
        for (int m : Fixtures.outside(1)) {
            due.is("like(" + m + ", 0)", x.like(m, 0), -1);
            due.is("like(0, " + m + ")", x.like(0, m), -1);
            due.is("smallest(" + m + ")", x.smallest(m), -1);
        }
    }
}
