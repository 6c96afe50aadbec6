/** Promises 12 to 17: matches round by round, in the mean, with discount, and with a slip. */
public final class MatchesTest {
    private static final int BAD_SUM = -1000000;
    private static final long BAD_PART = -1000000000000000L;

    public static void main(String[] args) {
        Due due = new Due();
        action(due);
        match(due);
        tailOneRingThree(due);
        longestRing(due);
        statesCountNotActions(due);
        sum(due);
        mean(due);
        worth(due);
        greatestWorth(due);
        slipThatHeals(due);
        slipThatStays(due);
        slipOfEachAction(due);
        slipByRound(due);
        slipOfWhoGoesOn(due);
        wrongMachines(due);
        due.end();
    }

    private static void action(Due due) {
        AgainAgain x = Fixtures.tailTwoRingTwo();
        int[] done = {0, 1, 2, 1, 2, 1, 2};
        for (int r = 0; r < done.length; r++) {
            due.is("action(0, 1, " + r + ")", x.action(0, 1, r), done[r]);
            due.is("action(1, 0, " + r + ")", x.action(1, 0, r), 0);
        }
        due.is("action(0, 1, 999)", x.action(0, 1, 999), 1);
        due.is("action(0, 1, 1000)", x.action(0, 1, 1000), 2);
        due.is("action(0, 0, 0)", x.action(0, 0, 0), 0);
        due.is("action(0, 0, 3)", x.action(0, 0, 3), 1);
        for (int r : Fixtures.outside(1001)) {
            due.is("action(0, 1, " + r + ")", x.action(0, 1, r), -1);
        }
    }

    private static void match(Due due) {
        AgainAgain x = Fixtures.tailTwoRingTwo();
        int[] told = {2, 2, 8, -1};
        for (int what = 0; what < 4; what++) {
            due.is("match(0, 1, " + what + ")", x.match(0, 1, what), told[what]);
        }
        due.is("match(1, 0, 0)", x.match(1, 0, 0), 2);
        due.is("match(1, 0, 1)", x.match(1, 0, 1), 2);
        due.is("match(1, 0, 2)", x.match(1, 0, 2), 5);
        due.is("match(1, 0, 3)", x.match(1, 0, 3), 0);
        due.is("match(1, 1, 0)", x.match(1, 1, 0), 0);
        due.is("match(1, 1, 1)", x.match(1, 1, 1), 1);
        due.is("match(1, 1, 2)", x.match(1, 1, 2), 0);
        due.is("match(1, 1, 3)", x.match(1, 1, 3), 5);
        for (int what : Fixtures.outside(4)) {
            due.is("match(0, 1, " + what + ")", x.match(0, 1, what), BAD_SUM);
        }
    }

    /** Machine 0 goes its states 0, 1, 2, 3, 1, 2, 3, .. and does 0, 0, 1, 2, 0, 1, 2, .. */
    private static void tailOneRingThree(Due due) {
        AgainAgain x = new AgainAgain();
        x.pay(0, 0, 1);
        x.pay(1, 0, 10);
        x.pay(2, 0, 30);
        x.machine(4);
        x.does(0, 2, 1);
        x.does(0, 3, 2);
        int[] nexts = {1, 2, 3, 1};
        for (int s = 0; s < 4; s++) {
            x.goes(0, s, 0, nexts[s]);
        }
        Fixtures.steady(x, 0);
        for (int r = 1; r <= 1000; r += 9) {
            due.is("action(0, 1, " + r + ")", x.action(0, 1, r), 0);
            due.is("action(0, 1, " + (r - 1) + ")", x.action(0, 1, r - 1), r == 1 ? 0 : 2);
            due.is("action(0, 1, " + (r + 1) + ")", x.action(0, 1, r + 1), r == 1000 ? -1 : 1);
        }
        due.is("match(0, 1, 0)", x.match(0, 1, 0), 1);
        due.is("match(0, 1, 1)", x.match(0, 1, 1), 3);
        due.is("sum(0, 1, 1000)", x.sum(0, 1, 1000), 1 + 333 * 41);
        due.is("sum(0, 1, 999)", x.sum(0, 1, 999), 1 + 333 * 41 - 30);
    }

    /** Machine 0 goes on by one state in the round in which machine 1, of four states, does 1. */
    private static void longestRing(Due due) {
        AgainAgain x = new AgainAgain();
        x.pay(0, 0, 1);
        x.pay(0, 1, -50);
        x.machine(4);
        x.machine(4);
        x.does(1, 3, 1);
        for (int s = 0; s < 4; s++) {
            x.goes(0, s, 1, (s + 1) % 4);
            x.goes(1, s, 0, (s + 1) % 4);
        }
        due.is("match(0, 1, 0)", x.match(0, 1, 0), 0);
        due.is("match(0, 1, 1)", x.match(0, 1, 1), 16);
        due.is("match(0, 1, 3)", x.match(0, 1, 3), 12 - 200);
        x.goes(0, 3, 1, 3);
        due.is("a tail of 12", x.match(0, 1, 0), 12);
        due.is("behind it a ring of 4", x.match(0, 1, 1), 4);
        due.is("the tail's pays", x.match(0, 1, 2), 9 - 150);
        due.is("the ring's pays", x.match(0, 1, 3), 3 - 50);
        due.is("sum(0, 1, 1000)", x.sum(0, 1, 1000), 250 * -47);
    }

    /** A pair of states must come again: that the same is done again does not count. */
    private static void statesCountNotActions(Due due) {
        AgainAgain x = new AgainAgain();
        x.machine(3);
        x.goes(0, 0, 0, 1);
        x.goes(0, 1, 0, 2);
        x.goes(0, 2, 0, 1);
        due.is("match(0, 0, 0)", x.match(0, 0, 0), 1);
        due.is("match(0, 0, 1)", x.match(0, 0, 1), 2);
    }

    private static void sum(Due due) {
        AgainAgain x = Fixtures.tailTwoRingTwo();
        int[] sums = {0, 5, 8, 4, 7, 3, 6, 2};
        for (int n = 0; n < sums.length; n++) {
            due.is("sum(0, 1, " + n + ")", x.sum(0, 1, n), sums[n]);
            due.is("sum(1, 0, " + n + ")", x.sum(1, 0, n), n == 0 ? 0 : 5);
        }
        due.is("sum(0, 1, 999)", x.sum(0, 1, 999), -494);
        due.is("sum(0, 1, 1000)", x.sum(0, 1, 1000), -491);
        for (int n : Fixtures.outside(1001)) {
            due.is("sum(0, 1, " + n + ")", x.sum(0, 1, n), BAD_SUM);
        }
    }

    private static void parts(Due due, String call, long top, long bottom, long dueTop, long dueBottom) {
        due.is(call + ": numerator", top, dueTop);
        due.is(call + ": denominator", bottom, dueBottom);
    }

    private static void mean(Due due) {
        AgainAgain x = Fixtures.tailTwoRingTwo();
        parts(due, "mean(0, 1)", x.mean(0, 1, 0), x.mean(0, 1, 1), -1, 2);
        parts(due, "mean(1, 0)", x.mean(1, 0, 0), x.mean(1, 0, 1), 0, 1);
        parts(due, "mean(1, 1)", x.mean(1, 1, 0), x.mean(1, 1, 1), 5, 1);
        x.pay(1, 0, 12);
        parts(due, "mean of 8 by 2", x.mean(0, 1, 0), x.mean(0, 1, 1), 4, 1);
        for (int what : Fixtures.outside(2)) {
            due.is("mean(0, 1, " + what + ")", x.mean(0, 1, what), BAD_PART);
        }
    }

    private static void worth(Due due) {
        AgainAgain x = Fixtures.tailTwoRingTwo();
        parts(due, "worth(0, 1)", x.worth(0, 1, 0), x.worth(0, 1, 1), 17, 3);
        parts(due, "worth(1, 0)", x.worth(1, 0, 0), x.worth(1, 0, 1), 5, 1);
        parts(due, "worth(1, 1)", x.worth(1, 1, 0), x.worth(1, 1, 1), 10, 1);
        x.discount(2, 3);
        // 5 + 2 + 4/9 (-4 + 2) / (5/9)
        parts(due, "at 2 by 3", x.worth(0, 1, 0), x.worth(0, 1, 1), 27, 5);
        x.pay(0, 0, -50);
        // -50 + 2 + 4/9 (-4 + 2) / (5/9)
        parts(due, "below 0", x.worth(0, 1, 0), x.worth(0, 1, 1), -248, 5);
        x.pay(0, 0, 0);
        x.pay(1, 0, 0);
        x.pay(2, 0, 0);
        parts(due, "nothing", x.worth(0, 1, 0), x.worth(0, 1, 1), 0, 1);
        for (int what : Fixtures.outside(2)) {
            due.is("worth(0, 1, " + what + ")", x.worth(0, 1, what), BAD_PART);
        }
    }

    private static void greatestWorth(Due due) {
        AgainAgain x = new AgainAgain();
        x.pay(0, 0, 50);
        x.pay(1, 1, -50);
        Fixtures.steady(x, 0);
        Fixtures.steady(x, 1);
        x.discount(3, 4);
        parts(due, "the greatest", x.worth(0, 0, 0), x.worth(0, 0, 1), 200, 1);
        parts(due, "the least", x.worth(1, 1, 0), x.worth(1, 1, 1), -200, 1);
    }

    /** Each of the two takes on if that was well paid, and changes if not: a slip is healed in three rounds. */
    private static void slipThatHeals(Due due) {
        AgainAgain x = Fixtures.dilemma();
        int stay = x.machine(2);
        x.does(stay, 1, 1);
        x.goes(stay, 0, 1, 1);
        x.goes(stay, 1, 1, 0);
        for (int r = 0; r <= 100; r += 20) {
            due.is("slip(stay, stay, " + r + ")", x.slip(stay, stay, r), 3);
        }
        int patient = x.machine(3);
        x.does(patient, 2, 1);
        x.goes(patient, 0, 1, 1);
        x.goes(patient, 1, 0, 0);
        x.goes(patient, 1, 1, 2);
        x.goes(patient, 2, 0, 0);
        due.is("slip(patient, patient, 0)", x.slip(patient, patient, 0), 2);
        due.is("slip(stay, patient, 0)", x.slip(stay, patient, 0), 2);
        due.is("slip(patient, stay, 0)", x.slip(patient, stay, 0), -4);
        due.is("a slip changes nothing for good", x.action(patient, patient, 1), 0);
    }

    private static void slipThatStays(Due due) {
        AgainAgain x = Fixtures.dilemmaOfThree();
        Fixtures.grim(x);
        due.is("slip(2, 2, 0): they take in turns", x.slip(2, 2, 0), -4);
        due.is("slip(3, 3, 7)", x.slip(3, 3, 7), -4);
        due.is("slip(0, 1, 0): nobody minds", x.slip(0, 1, 0), 1);
        due.is("slip(0, 3, 100): grim minds", x.slip(0, 3, 100), -4);
        due.is("slip(3, 0, 100): who slips does not see it", x.slip(3, 0, 100), 1);
        due.is("slip(1, 2, 0): 2 is no taking", x.slip(1, 2, 5), 1);
        for (int r : Fixtures.outside(101)) {
            due.is("slip(0, 1, " + r + ")", x.slip(0, 1, r), -1);
        }
    }

    /** The listener goes away for one round when it hears the slip, and only then. */
    private static void slipOfEachAction(Due due) {
        for (int a = 0; a < 3; a++) {
            for (int heard = 0; heard < 3; heard++) {
                AgainAgain x = new AgainAgain();
                Fixtures.steady(x, a);
                x.machine(2);
                x.goes(1, 0, heard, 1);
                for (int b = 0; b < 3; b++) {
                    x.goes(1, 1, b, 0);
                }
                int want = heard == (a + 1) % 3 ? 2 : heard == a ? -4 : 1;
                due.is("slip of " + a + ", heard is " + heard, x.slip(0, 1, 50), want);
            }
        }
    }

    /** Machine 1 hears a slip in odd rounds alone, and then for ever. */
    private static void slipByRound(Due due) {
        AgainAgain x = new AgainAgain();
        Fixtures.steady(x, 0);
        x.machine(3);
        x.goes(1, 0, 0, 1);
        x.goes(1, 0, 1, 1);
        x.goes(1, 1, 0, 0);
        x.goes(1, 1, 1, 2);
        for (int r = 0; r <= 100; r += 7) {
            due.is("slip(0, 1, " + r + ")", x.slip(0, 1, r), r % 2 == 0 ? 1 : -4);
        }
        due.is("slip(0, 1, 100)", x.slip(0, 1, 100), 1);
        due.is("slip(0, 1, 99)", x.slip(0, 1, 99), -4);
    }

    /** Machine 0 does 0 and 1 in turns; machine 1 goes away for ever if it hears 2: the slip of 1. */
    private static void slipOfWhoGoesOn(Due due) {
        AgainAgain x = new AgainAgain();
        x.machine(2);
        x.does(0, 1, 1);
        x.goes(0, 0, 0, 1);
        x.goes(0, 1, 0, 0);
        x.machine(2);
        x.goes(1, 0, 2, 1);
        for (int r = 0; r < 4; r++) {
            due.is("slip(0, 1, " + r + ")", x.slip(0, 1, r), r % 2 == 0 ? 1 : -4);
        }
        due.is("slip(1, 0, 0): 0 hears 1 and stays behind", x.slip(1, 0, 0), -4);
    }

    private static void wrongMachines(Due due) {
        AgainAgain x = Fixtures.dilemmaOfThree();
        for (int m : Fixtures.outside(3)) {
            due.is("action(" + m + ", 0)", x.action(m, 0, 0), -1);
            due.is("action(0, " + m + ")", x.action(0, m, 0), -1);
            due.is("match(" + m + ", 0)", x.match(m, 0, 0), BAD_SUM);
            due.is("match(0, " + m + ")", x.match(0, m, 0), BAD_SUM);
            due.is("sum(" + m + ", 0)", x.sum(m, 0, 0), BAD_SUM);
            due.is("sum(0, " + m + ")", x.sum(0, m, 0), BAD_SUM);
            due.is("mean(" + m + ", 0)", x.mean(m, 0, 0), BAD_PART);
            due.is("mean(0, " + m + ")", x.mean(0, m, 0), BAD_PART);
            due.is("worth(" + m + ", 0)", x.worth(m, 0, 0), BAD_PART);
            due.is("worth(0, " + m + ")", x.worth(0, m, 0), BAD_PART);
            due.is("slip(" + m + ", 0)", x.slip(m, 0, 0), -1);
            due.is("slip(0, " + m + ")", x.slip(0, m, 0), -1);
        }
    }
}
