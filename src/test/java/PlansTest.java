/** Promises 20 to 27: plans, pairs that rest, deviations, who resists whom. */
public final class PlansTest {
    private static final long BAD_PART = -1000000000000000L;

    public static void main(String[] args) {
        Due due = new Due();
        best(due);
        bestOfLikeWorth(due);
        bestOfFourStates(due);
        planWorth(due);
        rest(due);
        restAsTheGameIsNow(due);
        everywhere(due);
        deviation(due);
        deviationOfNeighbours(due);
        deviationOfTheOtherSide(due);
        resists(due);
        invaders(due);
        wrongStatesAndPlans(due);
        wrongMachines(due);
        due.end();
    }

    private static void bestIs(Due due, AgainAgain x, int m, int s, int plan, long top, long bottom) {
        String of = "(" + m + ", " + s + ")";
        due.is("best" + of, x.best(m, s), plan);
        due.is("bestWorth" + of + ": numerator", x.bestWorth(m, s, 0), top);
        due.is("bestWorth" + of + ": denominator", x.bestWorth(m, s, 1), bottom);
        due.is("it is the plan's worth", x.planWorth(m, s, plan, 0), top);
        due.is("it is the plan's worth", x.planWorth(m, s, plan, 1), bottom);
    }

    private static void best(Due due) {
        AgainAgain x = Fixtures.dilemmaOfThree();
        bestIs(due, x, 0, 0, 1, 10, 1);
        bestIs(due, x, 1, 0, 1, 2, 1);
        bestIs(due, x, 2, 0, 1, 20, 3);
        bestIs(due, x, 2, 1, 1, 10, 3);
        x.discount(3, 4);
        bestIs(due, x, 2, 0, 0, 12, 1);
        bestIs(due, x, 2, 1, 0, 9, 1);
        x.pay(2, 1, 40);
        bestIs(due, x, 1, 0, 2, 160, 1);
        bestIs(due, x, 2, 0, 7, 125, 1);
        bestIs(due, x, 2, 1, 6, 160, 1);
    }

    /** Helping on and helping in turns bring the same: the lesser number counts. */
    private static void bestOfLikeWorth(Due due) {
        AgainAgain x = Fixtures.dilemmaOfThree();
        x.discount(2, 3);
        bestIs(due, x, 2, 0, 0, 9, 1);
        bestIs(due, x, 2, 1, 0, 6, 1);
        due.is("planWorth(2, 0, 1, 0)", x.planWorth(2, 0, 1, 0), 9);
        due.is("planWorth(2, 1, 1, 0)", x.planWorth(2, 1, 1, 0), 6);
        AgainAgain y = new AgainAgain();
        y.machine(4);
        bestIs(due, y, 0, 0, 0, 0, 1);
        bestIs(due, y, 0, 3, 0, 0, 1);
        y.pay(0, 0, -1);
        bestIs(due, y, 0, 0, 1, 0, 1);
        bestIs(due, y, 0, 3, 27, 0, 1);
    }

    /** A ring of four on whatever is done, with the best answer of each state another one. */
    private static void bestOfFourStates(Due due) {
        AgainAgain x = new AgainAgain();
        x.pay(2, 0, 7);
        x.pay(0, 1, 8);
        x.pay(1, 2, 1);
        x.machine(4);
        int[] does = {0, 1, 2, 0};
        for (int s = 0; s < 4; s++) {
            x.does(0, s, does[s]);
            for (int a = 0; a < 3; a++) {
                x.goes(0, s, a, (s + 1) % 4);
            }
        }
        int plan = 2 + 3 * 0 + 9 * 1 + 27 * 2;
        // 7 + 8/2 + 1/4 + 7/8, by 1 - 1/16
        bestIs(due, x, 0, 0, plan, 194, 15);
        // 8 + 1/2 + 7/4 + 7/8
        bestIs(due, x, 0, 1, plan, 178, 15);
        due.is("planWorth(0, 0, 80, 0)", x.planWorth(0, 0, 80, 0), 42);
        due.is("planWorth(0, 0, 80, 1)", x.planWorth(0, 0, 80, 1), 5);
        due.is("planWorth(0, 0, 81, 0)", x.planWorth(0, 0, 81, 0), BAD_PART);
        due.is("planWorth(0, 0, 0, 0)", x.planWorth(0, 0, 0, 0), 64);
        due.is("planWorth(0, 0, 0, 1)", x.planWorth(0, 0, 0, 1), 15);
    }

    private static void planWorth(Due due) {
        AgainAgain x = Fixtures.dilemmaOfThree();
        long[][] fromFirst = {{6, 1}, {20, 3}, {0, 1}, {6, 1}, {6, 1}, {0, 1}, {6, 1}, {5, 1}, {0, 1}};
        for (int plan = 0; plan < 9; plan++) {
            due.is("planWorth(2, 0, " + plan + ", 0)", x.planWorth(2, 0, plan, 0), fromFirst[plan][0]);
            due.is("planWorth(2, 0, " + plan + ", 1)", x.planWorth(2, 0, plan, 1), fromFirst[plan][1]);
        }
        due.is("planWorth(2, 1, 3, 0)", x.planWorth(2, 1, 3, 0), 2);
        due.is("planWorth(2, 1, 0, 0)", x.planWorth(2, 1, 0, 0), 3);
        for (int plan : Fixtures.outside(9)) {
            due.is("planWorth(2, 0, " + plan + ", 0)", x.planWorth(2, 0, plan, 0), BAD_PART);
            due.is("planWorth(2, 0, " + plan + ", 1)", x.planWorth(2, 0, plan, 1), BAD_PART);
        }
        for (int plan : Fixtures.outside(3)) {
            due.is("planWorth(0, 0, " + plan + ", 0)", x.planWorth(0, 0, plan, 0), BAD_PART);
        }
        due.is("planWorth(0, 0, 2, 1)", x.planWorth(0, 0, 2, 1), 1);
    }

    private static void rest(Due due) {
        AgainAgain x = Fixtures.dilemmaOfThree();
        due.is("rest(1, 1)", x.rest(1, 1), 1);
        due.is("rest(0, 0)", x.rest(0, 0), 0);
        due.is("rest(0, 1): 0 could do better", x.rest(0, 1), 0);
        due.is("rest(1, 0): 0 could do better", x.rest(1, 0), 0);
        due.is("rest(2, 2) at 1 by 2", x.rest(2, 2), 0);
        due.is("count(2) at 1 by 2", x.count(2), 1);
        x.discount(2, 3);
        due.is("rest(2, 2) at 2 by 3", x.rest(2, 2), 1);
        due.is("rest(0, 2) at 2 by 3", x.rest(0, 2), 0);
        due.is("count(2) at 2 by 3", x.count(2), 2);
        x.discount(1, 3);
        due.is("rest(2, 2) at 1 by 3", x.rest(2, 2), 0);
    }

    /** Nothing is kept of what was best ahead of a change. */
    private static void restAsTheGameIsNow(Due due) {
        AgainAgain x = Fixtures.dilemma();
        x.discount(3, 4);
        Fixtures.titForTat(x);
        Fixtures.grim(x);
        due.is("rest(0, 1)", x.rest(0, 1), 1);
        x.pay(1, 0, 10);
        due.is("rest(0, 1): taking pays now", x.rest(0, 1), 0);
        x.pay(1, 0, 5);
        due.is("rest(1, 0)", x.rest(1, 0), 1);
        x.goes(1, 0, 1, 0);
        due.is("rest(0, 1): 1 forgives all", x.rest(0, 1), 0);
        due.is("rest(1, 0): 1 forgives all", x.rest(1, 0), 0);
        due.is("everywhere(0, 1)", x.everywhere(0, 1), 0);
        x.drop();
        Fixtures.grim(x);
        due.is("rest(0, 1)", x.rest(0, 1), 1);
        x.does(0, 0, 1);
        due.is("rest(0, 1): 0 takes at first", x.rest(0, 1), 0);
    }

    private static void everywhere(Due due) {
        AgainAgain x = Fixtures.dilemmaOfThree();
        due.is("everywhere(1, 1)", x.everywhere(1, 1), 1);
        due.is("everywhere(0, 0)", x.everywhere(0, 0), 0);
        due.is("everywhere(0, 1)", x.everywhere(0, 1), 0);
        x.discount(2, 3);
        due.is("rest(2, 2)", x.rest(2, 2), 1);
        due.is("everywhere(2, 2)", x.everywhere(2, 2), 0);
        int more = x.machine(3);
        x.does(more, 0, 1);
        x.does(more, 1, 1);
        x.does(more, 2, 1);
        due.is("everywhere(1, more)", x.everywhere(1, more), 1);
        x.does(more, 2, 0);
        due.is("a state that never comes counts", x.everywhere(1, more), 0);
        due.is("a state that never comes counts", x.everywhere(more, 1), 0);
        due.is("it does not for rest", x.rest(1, more), 1);
    }

    private static void deviationIs(Due due, AgainAgain x, int i, int j, int pair, int side, int plan) {
        String of = "deviation(" + i + ", " + j + ", ";
        due.is(of + "0)", x.deviation(i, j, 0), pair);
        due.is(of + "1)", x.deviation(i, j, 1), side);
        due.is(of + "2)", x.deviation(i, j, 2), plan);
    }

    private static void deviation(Due due) {
        AgainAgain x = Fixtures.dilemmaOfThree();
        deviationIs(due, x, 1, 1, -4, -4, -4);
        deviationIs(due, x, 0, 1, 0, 0, 1);
        deviationIs(due, x, 1, 0, 0, 1, 1);
        deviationIs(due, x, 2, 2, 0, 0, 1);
        x.discount(2, 3);
        deviationIs(due, x, 2, 2, 5, 0, 0);
        x.discount(3, 4);
        deviationIs(due, x, 2, 2, 1, 0, 0);
        int more = x.machine(4);
        for (int s = 0; s < 4; s++) {
            x.does(more, s, 1);
        }
        deviationIs(due, x, 1, more, -4, -4, -4);
        x.does(more, 2, 0);
        deviationIs(due, x, 1, more, 2, 1, 1);
        deviationIs(due, x, more, 1, 8, 0, 1);
        x.does(more, 2, 1);
        x.does(more, 3, 0);
        deviationIs(due, x, 1, more, 3, 1, 1);
        deviationIs(due, x, more, 1, 12, 0, 1);
        for (int what : Fixtures.outside(3)) {
            due.is("deviation(0, 1, " + what + ")", x.deviation(0, 1, what), -1);
            due.is("BAD is ahead of NONE", x.deviation(1, 1, what), -1);
        }
    }

    /** Machine 0 takes, but would help for ever from its state 1; machine 1 takes. */
    private static void deviationOfNeighbours(Due due) {
        AgainAgain x = Fixtures.dilemma();
        x.machine(2);
        x.does(0, 0, 1);
        Fixtures.steady(x, 1);
        deviationIs(due, x, 1, 0, 1, 1, 1);
        deviationIs(due, x, 0, 1, 4, 0, 1);
        AgainAgain y = Fixtures.dilemma();
        y.discount(3, 4);
        Fixtures.grim(y);
        Fixtures.titForTat(y);
        deviationIs(due, y, 0, 1, 1, 0, 0);
        deviationIs(due, y, 1, 0, 1, 0, 3);
        AgainAgain z = Fixtures.dilemma();
        while (z.count(0) < 12) {
            z.machine(4);
        }
        for (int s = 0; s < 4; s++) {
            z.does(11, s, 1);
        }
        deviationIs(due, z, 11, 11, -4, -4, -4);
        z.does(11, 3, 0);
        deviationIs(due, z, 11, 11, 3, 1, 1);
    }

    /** The best answers are 2 against helping, 1 against doing 2. */
    private static void deviationOfTheOtherSide(Due due) {
        AgainAgain x = Fixtures.dilemma();
        x.pay(2, 0, 6);
        x.pay(1, 2, 4);
        Fixtures.steady(x, 0);
        Fixtures.steady(x, 2);
        due.is("best(0, 0)", x.best(0, 0), 2);
        due.is("best(1, 0)", x.best(1, 0), 1);
        deviationIs(due, x, 1, 0, 0, 1, 1);
        deviationIs(due, x, 0, 1, 0, 0, 1);
        deviationIs(due, x, 0, 0, 0, 0, 2);
        deviationIs(due, x, 1, 1, 0, 0, 1);
        x.pay(0, 2, 4);
        due.is("rest(0, 1)", x.rest(0, 1), 1);
        deviationIs(due, x, 0, 1, -4, -4, -4);
    }

    private static void resists(Due due) {
        AgainAgain x = new AgainAgain();
        Fixtures.steady(x, 0);
        Fixtures.steady(x, 1);
        // {pay(0, 0), pay(1, 0), pay(0, 1), pay(1, 1), resists(0, 1), resists(1, 0)}
        int[][] games = {{2, 1, 0, 3, 1, 1}, {1, 1, 3, 2, 1, 0}, {1, 1, 2, 2, 0, 0}, {1, 1, 1, 2, 0, 1},
            {1, 2, 3, 0, 0, 0}, {3, 2, 1, 1, 1, 0}};
        for (int[] g : games) {
            x.pay(0, 0, g[0]);
            x.pay(1, 0, g[1]);
            x.pay(0, 1, g[2]);
            x.pay(1, 1, g[3]);
            due.is("resists(0, 1)", x.resists(0, 1), g[4]);
            due.is("resists(1, 0)", x.resists(1, 0), g[5]);
            due.is("invaders(0)", x.invaders(0), g[4] == 1 ? 0 : 2);
            due.is("invaders(1)", x.invaders(1), g[5] == 1 ? 0 : 1);
        }
        due.is("resists(0, 0)", x.resists(0, 0), -1);
        due.is("resists(1, 1)", x.resists(1, 1), -1);
    }

    private static void invaders(Due due) {
        AgainAgain x = Fixtures.dilemmaOfThree();
        x.discount(3, 4);
        due.is("invaders(0): all", x.invaders(0), 6);
        due.is("invaders(1): none", x.invaders(1), 0);
        due.is("invaders(2): who helps", x.invaders(2), 1);
        while (x.count(0) < 12) {
            Fixtures.steady(x, 1);
        }
        due.is("invaders(1): its likes", x.invaders(1), 4096 - 8);
        due.is("invaders(11): its likes", x.invaders(11), 2048 - 8 + 2);
        due.is("resists(1, 11)", x.resists(1, 11), 0);
        AgainAgain y = new AgainAgain();
        Fixtures.steady(y, 0);
        due.is("invaders of one alone", y.invaders(0), 0);
    }

    private static void wrongStatesAndPlans(Due due) {
        AgainAgain x = Fixtures.dilemmaOfThree();
        for (int s : Fixtures.outside(2)) {
            due.is("best(2, " + s + ")", x.best(2, s), -1);
            due.is("bestWorth(2, " + s + ", 0)", x.bestWorth(2, s, 0), BAD_PART);
            due.is("planWorth(2, " + s + ", 0, 0)", x.planWorth(2, s, 0, 0), BAD_PART);
        }
        due.is("best(0, 1)", x.best(0, 1), -1);
        for (int what : Fixtures.outside(2)) {
            due.is("bestWorth(2, 0, " + what + ")", x.bestWorth(2, 0, what), BAD_PART);
            due.is("planWorth(2, 0, 0, " + what + ")", x.planWorth(2, 0, 0, what), BAD_PART);
        }
    }

    private static void wrongMachines(Due due) {
        AgainAgain x = Fixtures.dilemmaOfThree();
        for (int m : Fixtures.outside(3)) {
            due.is("best(" + m + ", 0)", x.best(m, 0), -1);
            due.is("bestWorth(" + m + ", 0, 0)", x.bestWorth(m, 0, 0), BAD_PART);
            due.is("planWorth(" + m + ", 0, 0, 0)", x.planWorth(m, 0, 0, 0), BAD_PART);
            due.is("rest(" + m + ", 0)", x.rest(m, 0), -1);
            due.is("rest(0, " + m + ")", x.rest(0, m), -1);
            due.is("everywhere(" + m + ", 0)", x.everywhere(m, 0), -1);
            due.is("everywhere(0, " + m + ")", x.everywhere(0, m), -1);
            due.is("deviation(" + m + ", 0, 0)", x.deviation(m, 0, 0), -1);
            due.is("deviation(0, " + m + ", 0)", x.deviation(0, m, 0), -1);
            due.is("resists(" + m + ", 0)", x.resists(m, 0), -1);
            due.is("resists(0, " + m + ")", x.resists(0, m), -1);
            due.is("resists(" + m + ", " + m + ")", x.resists(m, m), -1);
            due.is("invaders(" + m + ")", x.invaders(m), -1);
        }
    }
}
