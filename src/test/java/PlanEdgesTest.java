/** The edges of promises 20 to 27, in the document's order, a row for each; each row has an object of its own. */
public final class PlanEdgesTest {
    private static final int LEAST = Integer.MIN_VALUE;
    private static final int GREATEST = Integer.MAX_VALUE;
    private static final long BAD_PART = -1000000000000000L;

    private static final Due DUE = new Due();
    private static final Edges NEW = new Edges(DUE, AgainAgain::new);
    private static final Edges SOME = new Edges(DUE, Fixtures::someOfAll);
    private static final Edges ALL = new Edges(DUE, Fixtures::allFull);
    private static final Edges DILEMMA = new Edges(DUE, Fixtures::dilemmaOfThree);
    private static final Edges LIKES = new Edges(DUE, PlanEdgesTest::twelveUnpaid);
    private static final Edges STILL = new Edges(DUE, PlanEdgesTest::still);
    private static final Edges RING = new Edges(DUE, PlanEdgesTest::restingRing);

    public static void main(String[] args) {
        machines();
        states();
        best();
        bestWorth();
        planRefused();
        planTaken();
        rest();
        restInTheLongestRing();
        everywhere();
        deviationRefused();
        deviationOfPairs();
        deviationOfSides();
        resistsOneself();
        resistsByWorth();
        invaders();
        DUE.end();
    }

    /** Twelve machines, one of them of four states, and nothing is paid: all is worth the same. */
    private static AgainAgain twelveUnpaid() {
        AgainAgain x = new AgainAgain();
        Fixtures.roundabout(x, 0, 1, 2, 1);
        while (x.machine(2) >= 0) {
            x.does(x.count(0) - 1, 0, 1);
        }
        return x;
    }

    /** Two machines that stay where they are; to do 0 is best against all, but 1 is as good against 0. */
    private static AgainAgain still() {
        AgainAgain x = new AgainAgain();
        x.pay(0, 1, 1);
        x.machine(4);
        x.machine(4);
        return x;
    }

    /** The longest ring, in which no action is better than the one that is done. */
    private static AgainAgain restingRing() {
        AgainAgain x = Fixtures.longestRing(0, 0, 0, 0);
        Fixtures.payAll(x, 50, 49, -50, 50, 48, -50, 49, -50, 50);
        x.discount(3, 4);
        return x;
    }

    private static void machines() {
        noSuchMachine(NEW, 0);
        noSuchMachine(ALL, 12);
        for (int m : Fixtures.outside(4)) {
            noSuchMachine(SOME, m);
            SOME.stays("23: no such j", -1, x -> x.rest(1, m));
            SOME.stays("24: no such j", -1, x -> x.everywhere(1, m));
            SOME.stays("25: no such j", -1, x -> x.deviation(1, m, 0));
            SOME.stays("26: no such i", -1, x -> x.resists(1, m));
        }
    }

    private static void noSuchMachine(Edges of, int m) {
        of.stays("20: no such machine", -1, x -> x.best(m, 0));
        of.stays("21: no such machine", BAD_PART, x -> x.bestWorth(m, 0, 0));
        of.stays("22: no such machine", BAD_PART, x -> x.planWorth(m, 0, 0, 0));
        of.stays("23: no such i", -1, x -> x.rest(m, 0));
        of.stays("24: no such i", -1, x -> x.everywhere(m, 0));
        of.stays("25: no such i", -1, x -> x.deviation(m, 0, 0));
        of.stays("26: no such j", -1, x -> x.resists(m, 1));
        of.stays("26: no such machine, twice", -1, x -> x.resists(m, m));
        of.stays("27: no such machine", -1, x -> x.invaders(m));
    }

    private static void states() {
        for (int n = 1; n <= 4; n++) {
            int m = n - 1;
            for (int s : Fixtures.outside(n)) {
                SOME.stays("20: no such state of " + n, -1, x -> x.best(m, s));
                SOME.stays("21: no such state of " + n, BAD_PART, x -> x.bestWorth(m, s, 0));
                SOME.stays("22: no such state of " + n, BAD_PART, x -> x.planWorth(m, s, 0, 0));
            }
        }
        for (int what : Fixtures.outside(2)) {
            SOME.stays("21: what is neither 0 nor 1", BAD_PART, x -> x.bestWorth(0, 0, what));
            SOME.stays("22: what is neither 0 nor 1", BAD_PART, x -> x.planWorth(0, 0, 0, what));
        }
    }

    private static void best() {
        LIKES.stays("20: all plans alike: the least number", 0, x -> x.best(0, 0));
        LIKES.stays("20: from the last state too", 0, x -> x.best(0, 3));
        LIKES.is("20: the greatest number", 80, x -> x.pay(2, 0, 1), x -> x.pay(2, 1, 1), x -> x.pay(2, 2, 1),
            x -> x.best(0, 0));
        STILL.is("20: state 0 is the lowest digit", 2, x -> x.pay(2, 0, 1), x -> x.best(0, 0));
        STILL.is("20: state 3 is the highest digit", 54, x -> x.pay(2, 0, 1), x -> x.best(0, 3));
        STILL.is("20: 1 is ahead of 2 that is as good", 1, x -> x.pay(2, 0, 1), x -> x.pay(1, 0, 1),
            x -> x.best(0, 0));
        STILL.is("20: a state that does not come has 0, though 2 were better", 2, x -> x.pay(2, 0, 1),
            x -> x.best(1, 0));
        ALL.stays("20: the 12th", 2, x -> x.best(11, 0));
        DILEMMA.is("20: at 2 by 3 to go on is as good as to take: the least", 0, x -> x.discount(2, 3),
            x -> x.best(2, 0));
        DILEMMA.stays("20: below that it is not", 1, x -> x.best(2, 0));
    }

    private static void bestWorth() {
        LIKES.stays("21: nothing is 0 ..", 0, x -> x.bestWorth(0, 3, 0));
        LIKES.stays("21: .. by 1", 1, x -> x.bestWorth(0, 3, 1));
        DILEMMA.stays("21: asked at first, ahead of best", 20, x -> x.bestWorth(2, 0, 0));
        DILEMMA.stays("21: asked at first, ahead of best", 3, x -> x.bestWorth(2, 0, 1));
        DILEMMA.is("21: as the game is now", 12, x -> x.bestWorth(2, 0, 0), x -> x.discount(3, 4),
            x -> x.bestWorth(2, 0, 0));
        Edges worst = new Edges(DUE, () -> {
            AgainAgain x = new AgainAgain();
            Fixtures.payAll(x, -50, 0, 0, -50, 0, 0, -50, 0, 0);
            x.discount(3, 4);
            x.machine(4);
            return x;
        });
        worst.stays("21: the least has the sign above", -200, x -> x.bestWorth(0, 0, 0));
        worst.stays("21: the denominator is above 0", 1, x -> x.bestWorth(0, 0, 1));
        worst.is("21: the greatest", 200, x -> x.pay(2, 0, 50), x -> x.bestWorth(0, 0, 0));
    }

    private static void planRefused() {
        int plans = 1;
        for (int n = 1; n <= 4; n++) {
            plans *= 3;
            int m = n - 1;
            for (int plan : Fixtures.outside(plans)) {
                SOME.stays("22: " + plan + " is no plan of " + n, BAD_PART, x -> x.planWorth(m, m, plan, 0));
                SOME.stays("22: " + plan + " is no plan of " + n, BAD_PART, x -> x.planWorth(m, m, plan, 1));
            }
        }
    }

    private static void planTaken() {
        int plans = 1;
        for (int n = 1; n <= 4; n++) {
            plans *= 3;
            int last = plans - 1;
            int states = n;
            NEW.is("22: the last plan, of " + n, 100, x -> x.machine(states), x -> x.pay(2, 0, 50),
                x -> x.planWorth(0, states - 1, last, 0));
            NEW.is("22: the first plan, of " + n, 100, x -> x.machine(states), x -> x.pay(0, 0, 50),
                x -> x.planWorth(0, states - 1, 0, 0));
            NEW.is("22: the last plan's action in the last state alone, of " + n, 100, x -> x.machine(states),
                x -> x.pay(2, 0, 50), x -> x.planWorth(0, states - 1, last - last / 3, 0));
            NEW.is("22: -100 has the sign above", -100, x -> x.machine(states), x -> x.pay(2, 0, -50),
                x -> x.planWorth(0, 0, last, 0));
            NEW.is("22: the denominator is above 0", 1, x -> x.machine(states), x -> x.pay(2, 0, -50),
                x -> x.planWorth(0, 0, last, 1));
        }
    }

    private static void rest() {
        LIKES.stays("23: all alike", 1, x -> x.rest(0, 11));
        LIKES.stays("23: one with itself", 1, x -> x.rest(11, 11));
        DILEMMA.stays("23: asked at first, ahead of best", 1, x -> x.rest(1, 1));
        DILEMMA.stays("23: the first one could do better", 0, x -> x.rest(0, 1));
        DILEMMA.stays("23: the second one could do better", 0, x -> x.rest(1, 0));
        DILEMMA.is("23: as good is enough", 1, x -> x.discount(2, 3), x -> x.rest(2, 2));
        DILEMMA.stays("23: below that they do not", 0, x -> x.rest(2, 2));
        DILEMMA.is("23: as the game is now", 0, x -> x.discount(2, 3), x -> x.rest(2, 2), x -> x.pay(1, 0, 6),
            x -> x.rest(2, 2));
        STILL.is("23: states that never come do not count", 1, x -> x.does(0, 3, 1), x -> x.does(1, 3, 1),
            x -> x.rest(0, 1));
    }

    private static void restInTheLongestRing() {
        RING.stays("23: it is the longest ring", 16, x -> x.match(0, 1, 1));
        RING.stays("23: as good as the best plan, exactly", 1, x -> x.rest(0, 1));
        RING.stays("23: from all pairs", 1, x -> x.everywhere(0, 1));
        RING.is("23: better by 1 in one round of four", 0, x -> x.pay(0, 0, 49), x -> x.rest(0, 1));
        RING.is("23: worse by 1 in one round of 16", 0, x -> x.does(0, 3, 1), x -> x.rest(0, 1));
        RING.is("23: the other one could do better by 1", 0, x -> x.pay(1, 0, 49), x -> x.rest(0, 1));
    }

    private static void everywhere() {
        LIKES.stays("24: all alike", 1, x -> x.everywhere(0, 11));
        DILEMMA.stays("24: asked at first, ahead of best", 1, x -> x.everywhere(1, 1));
        DILEMMA.stays("24: not from the first pair", 0, x -> x.everywhere(0, 1));
        DILEMMA.is("24: from the first pair, not from another one", 0, x -> x.discount(2, 3),
            x -> x.rest(2, 2), x -> x.everywhere(2, 2));
        STILL.stays("24: from each pair", 1, x -> x.everywhere(0, 1));
        STILL.is("24: from all but the last pair", 0, x -> x.does(0, 3, 1), x -> x.does(1, 3, 1),
            x -> x.everywhere(0, 1));
        STILL.is("24: states of one that never come count", 0, x -> x.does(1, 3, 2), x -> x.pay(1, 2, 1),
            x -> x.everywhere(0, 1));
        STILL.is("24: states of the other one that never come count", 0, x -> x.does(1, 3, 2),
            x -> x.pay(1, 2, 1), x -> x.everywhere(1, 0));
        STILL.is("24: as the game is now", 1, x -> x.does(0, 3, 1), x -> x.does(1, 3, 1),
            x -> x.everywhere(0, 1), x -> x.does(1, 3, 0), x -> x.everywhere(0, 1));
    }

    private static void deviationRefused() {
        for (int what : Fixtures.outside(3)) {
            SOME.stays("25: what is none of 0 to 2", -1, x -> x.deviation(0, 1, what));
            LIKES.stays("25: what is BAD, ahead of NONE", -1, x -> x.deviation(0, 1, what));
        }
        for (int what = 0; what < 3; what++) {
            int told = what;
            LIKES.stays("25: NONE", -4, x -> x.deviation(0, 11, told));
            STILL.stays("25: NONE, asked at first", -4, x -> x.deviation(0, 1, told));
        }
    }

    /** All pairs in which both do 1 do not rest, as 0 is better against 1; in all others they do. */
    private static void deviationOfPairs() {
        for (int s = 0; s < 4; s++) {
            for (int t = 0; t < 4; t++) {
                int mine = s;
                int theirs = t;
                Edges.Call ofOne = x -> x.does(0, mine, 1);
                Edges.Call ofOther = x -> x.does(1, theirs, 1);
                STILL.stays("25: the only pair, " + (4 * s + t), 4 * s + t, ofOne, ofOther,
                    x -> x.deviation(0, 1, 0));
                STILL.stays("25: both sides gain: of the first", 0, ofOne, ofOther, x -> x.deviation(0, 1, 1));
                STILL.stays("25: by doing 0", 0, ofOne, ofOther, x -> x.deviation(0, 1, 2));
            }
        }
        STILL.stays("25: of all pairs the first", 0, x -> x.pay(2, 0, 1), x -> x.deviation(0, 1, 0));
        STILL.stays("25: s counts ahead of t", 7, x -> x.does(0, 1, 1), x -> x.does(0, 3, 1),
            x -> x.does(1, 3, 1), x -> x.deviation(0, 1, 0));
        STILL.stays("25: of the first s the first t", 6, x -> x.does(0, 1, 1), x -> x.does(1, 2, 1),
            x -> x.does(1, 3, 1), x -> x.deviation(0, 1, 0));
    }

    /** In state 2 of machine 1, at which 2 is done, 1 is the best answer: to machine 0 alone. */
    private static void deviationOfSides() {
        Edges.Call one = x -> x.does(1, 2, 2);
        Edges.Call paid = x -> x.pay(1, 2, 5);
        Edges.Call other = x -> x.pay(2, 0, 0);
        STILL.stays("25: the pair", 2, one, paid, other, x -> x.deviation(0, 1, 0));
        STILL.stays("25: of i's side", 0, one, paid, other, x -> x.deviation(0, 1, 1));
        STILL.stays("25: the plan against j", 9, one, paid, other, x -> x.deviation(0, 1, 2));
        STILL.stays("25: the pair, the other way round", 8, one, paid, other, x -> x.deviation(1, 0, 0));
        STILL.stays("25: of j's side", 1, one, paid, other, x -> x.deviation(1, 0, 1));
        STILL.stays("25: the plan against i", 9, one, paid, other, x -> x.deviation(1, 0, 2));
    }

    private static void resistsOneself() {
        LIKES.stays("26: i and j are one", -1, x -> x.resists(0, 0));
        LIKES.stays("26: i and j are one, the 12th", -1, x -> x.resists(11, 11));
        LIKES.stays("26: likes are two", 0, x -> x.resists(10, 11));
    }

    /** Machines 0 and 1 do 0 and 1 for ever. By how much more: PAY(0, 0) than PAY(1, 0), PAY(0, 1) than PAY(1, 1). */
    private static void resistsByWorth() {
        for (int first = -1; first <= 1; first++) {
            for (int second = -1; second <= 1; second++) {
                int more = first;
                int late = second;
                NEW.stays("26: " + first + ", then " + second, first > 0 || first == 0 && second > 0 ? 1 : 0,
                    x -> Fixtures.steady(x, 0), x -> Fixtures.steady(x, 1), x -> x.pay(0, 0, 49 + more),
                    x -> x.pay(1, 0, 49), x -> x.pay(0, 1, -49 + late), x -> x.pay(1, 1, -49),
                    x -> x.resists(0, 1));
            }
        }
        NEW.stays("26: of all rounds, not of the first alone", 0, x -> Fixtures.roundabout(x, 0, 1),
            x -> Fixtures.steady(x, 0), x -> x.pay(0, 1, 3), x -> x.resists(0, 1));
    }

    private static void invaders() {
        NEW.stays("27: none but itself", 0, x -> x.machine(1), x -> x.invaders(0));
        LIKES.stays("27: all but the first", 4094, x -> x.invaders(0));
        LIKES.stays("27: all but the last", 2047, x -> x.invaders(11));
        LIKES.stays("27: all but itself", 4095 - 32, x -> x.invaders(5));
        DILEMMA.is("27: none", 0, x -> x.discount(3, 4), x -> x.invaders(1));
        DILEMMA.is("27: the first", 1, x -> x.discount(3, 4), x -> x.invaders(2));
        DILEMMA.is("27: who has gone is none", 2, x -> x.drop(), x -> x.invaders(0));
    }
}
