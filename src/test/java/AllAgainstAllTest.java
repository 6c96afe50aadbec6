/** Promises 28 to 30: scores, places, counts. */
public final class AllAgainstAllTest {
    public static void main(String[] args) {
        Due due = new Due();
        score(due);
        place(due);
        placeOfLikeScores(due);
        count(due);
        countOfUnlike(due);
        due.end();
    }

    private static void score(Due due) {
        AgainAgain x = Fixtures.dilemmaOfThree();
        int[][] scores = {{0, 0, 0}, {6, 11, 6}, {12, 18, 13}, {60, 74, 69}};
        int[] rounds = {0, 1, 2, 10};
        for (int k = 0; k < rounds.length; k++) {
            for (int m = 0; m < 3; m++) {
                due.is("score(" + m + ", " + rounds[k] + ")", x.score(m, rounds[k]), scores[k][m]);
            }
        }
        due.is("score(0, 1000)", x.score(0, 1000), 6000);
        due.is("score(1, 1000)", x.score(1, 1000), 5000 + 1000 + 1004);
        for (int n : Fixtures.outside(1001)) {
            due.is("score(0, " + n + ")", x.score(0, n), -1000000);
        }
        for (int m : Fixtures.outside(3)) {
            due.is("score(" + m + ", 1)", x.score(m, 1), -1000000);
        }
        x.drop();
        due.is("who has gone does not count", x.score(0, 10), 30);
    }

    private static void place(Due due) {
        AgainAgain x = Fixtures.dilemmaOfThree();
        int[] places = {1, 2, 0};
        for (int p = 0; p < 3; p++) {
            due.is("place(" + p + ", 10)", x.place(p, 10), places[p]);
        }
        Fixtures.grim(x);
        // at 1000 rounds: 9000, 8008, 10000 - 1, 10000 - 1
        int[] late = {2, 3, 0, 1};
        for (int p = 0; p < 4; p++) {
            due.is("place(" + p + ", 1000)", x.place(p, 1000), late[p]);
        }
        due.is("place(4, 1000)", x.place(4, 1000), -4);
        due.is("place(MAX, 1000)", x.place(Integer.MAX_VALUE, 1000), -4);
        due.is("place(-1, 1000)", x.place(-1, 1000), -1);
        due.is("place(MIN, 1000)", x.place(Integer.MIN_VALUE, 1000), -1);
        for (int n : Fixtures.outside(1001)) {
            due.is("place(0, " + n + ")", x.place(0, n), -1);
            due.is("BAD is ahead of NONE", x.place(9, n), -1);
        }
        due.is("place(0, 0) of none", new AgainAgain().place(0, 0), -4);
    }

    private static void placeOfLikeScores(Due due) {
        AgainAgain x = new AgainAgain();
        for (int m = 0; m < 12; m++) {
            Fixtures.steady(x, m % 2);
        }
        for (int p = 0; p < 12; p++) {
            due.is("place(" + p + ", 7), all alike", x.place(p, 7), p);
        }
        x.pay(1, 0, 2);
        for (int p = 0; p < 12; p++) {
            due.is("place(" + p + ", 7), odd ones ahead", x.place(p, 7), p < 6 ? 2 * p + 1 : 2 * (p - 6));
            due.is("place(" + p + ", 0), nothing paid", x.place(p, 0), p);
        }
        due.is("place(12, 7)", x.place(12, 7), -4);
    }

    private static void count(Due due) {
        AgainAgain x = Fixtures.dilemma();
        for (int what : Fixtures.outside(4)) {
            due.is("count(" + what + ")", x.count(what), -1);
        }
        due.is("no pairs", x.count(2), 0);
        Fixtures.steady(x, 1);
        due.is("one that rests with itself", x.count(2), 1);
        Fixtures.steady(x, 1);
        due.is("two: 3 pairs", x.count(2), 3);
        Fixtures.steady(x, 0);
        due.is("one that never rests", x.count(2), 3);
        Fixtures.steady(x, 1);
        due.is("three that rest: 6 pairs", x.count(2), 6);
        due.is("count(0)", x.count(0), 4);
        due.is("count(1)", x.count(1), 2);
        while (x.count(0) < 12) {
            x.machine(4);
        }
        for (int a = 0; a < 3; a++) {
            for (int b = 0; b < 3; b++) {
                x.pay(a, b, 0);
            }
        }
        due.is("all rest: 78 pairs", x.count(2), 78);
        due.is("count(0)", x.count(0), 12);
        due.is("sheet 0 is nothing", x.count(3), -4);
        x.sheet(1, 0, 5);
        due.is("sheet 0 is nothing yet", x.count(3), -4);
        x.sheet(0, 2, 7);
        due.is("count(3)", x.count(3), 7);
    }

    private static void countOfUnlike(Due due) {
        AgainAgain x = new AgainAgain();
        Fixtures.titForTat(x);
        due.is("count(1)", x.count(1), 1);
        Fixtures.grim(x);
        due.is("count(1)", x.count(1), 2);
        Fixtures.titForTat(x);
        due.is("count(1)", x.count(1), 2);
        x.machine(3);
        due.is("count(1)", x.count(1), 3);
        Fixtures.steady(x, 0);
        due.is("count(1)", x.count(1), 3);
        x.does(3, 2, 2);
        due.is("a state that never comes", x.count(1), 3);
        x.goes(3, 0, 2, 2);
        due.is("now it may come", x.count(1), 4);
        x.drop();
        due.is("count(1)", x.count(1), 3);
    }
}
