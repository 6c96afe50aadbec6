/** The edges of promises 12 to 19, in the document's order, a row for each; each row has an object of its own. */
public final class MatchEdgesTest {
    private static final int LEAST = Integer.MIN_VALUE;
    private static final int GREATEST = Integer.MAX_VALUE;
    private static final long BAD_SUM = -1000000;
    private static final long BAD_PART = -1000000000000000L;

    // Of machine 0 in the longest ring: 3 rounds of -49 and one of -50, 3 of 50 and one of 49, and so on.
    private static final int RING_FIRST_8 = 3 * -49 - 50 + 3 * 50 + 49;
    private static final int RING_SUM = RING_FIRST_8 + 3 * -47 - 49 + 3 * 50 + 49;

    private static final Due DUE = new Due();
    private static final Edges NEW = new Edges(DUE, AgainAgain::new);
    private static final Edges SOME = new Edges(DUE, Fixtures::someOfAll);
    private static final Edges ALL = new Edges(DUE, Fixtures::allFull);
    private static final Edges TAIL = new Edges(DUE, MatchEdgesTest::longestTail);
    private static final Edges RING = new Edges(DUE, MatchEdgesTest::longestRing);
    private static final Edges MOST = new Edges(DUE, () -> alone(50));
    private static final Edges FEWEST = new Edges(DUE, () -> alone(-50));

    public static void main(String[] args) {
        machines();
        action();
        match();
        matchOfTheLongestTail();
        sum();
        sumAtTheEndOfTheTail();
        mean();
        worth();
        worthOfTheLongest();
        slipRefused();
        slipOfTheNextAction();
        slipOfRounds();
        slipAndTheLongestWait();
        like();
        smallest();
        DUE.end();
    }

    private static AgainAgain longestTail() {
        AgainAgain x = Fixtures.longestTail();
        Fixtures.payAll(x, -7, -6, -5, 3, 4, 5, 13, 14, 15);
        return x;
    }

    private static AgainAgain longestRing() {
        AgainAgain x = Fixtures.longestRing(0, 1, 2, 1);
        Fixtures.payAll(x, -49, -50, 50, 50, 49, -50, -47, -49, 48);
        return x;
    }

    /** One machine of one state, paid the same for ever. */
    private static AgainAgain alone(int pay) {
        AgainAgain x = new AgainAgain();
        x.pay(0, 0, pay);
        x.machine(1);
        return x;
    }

    private static void machines() {
        NEW.stays("12: there is no machine", -1, x -> x.action(0, 0, 0));
        NEW.stays("13: there is no machine", BAD_SUM, x -> x.match(0, 0, 0));
        NEW.stays("14: there is no machine", BAD_SUM, x -> x.sum(0, 0, 0));
        NEW.stays("15: there is no machine", BAD_PART, x -> x.mean(0, 0, 0));
        NEW.stays("16: there is no machine", BAD_PART, x -> x.worth(0, 0, 0));
        NEW.stays("17: there is no machine", -1, x -> x.slip(0, 0, 0));
        NEW.stays("18: there is no machine", -1, x -> x.like(0, 0));
        NEW.stays("19: there is no machine", -1, x -> x.smallest(0));
        for (int m : Fixtures.outside(4)) {
            noSuchMachine(SOME, m);
        }
        noSuchMachine(ALL, 12);
    }

    private static void noSuchMachine(Edges of, int m) {
        of.stays("12: no such i", -1, x -> x.action(m, 1, 0));
        of.stays("12: no such j", -1, x -> x.action(1, m, 0));
        of.stays("13: no such i", BAD_SUM, x -> x.match(m, 1, 0));
        of.stays("13: no such j", BAD_SUM, x -> x.match(1, m, 0));
        of.stays("14: no such i", BAD_SUM, x -> x.sum(m, 1, 0));
        of.stays("14: no such j", BAD_SUM, x -> x.sum(1, m, 0));
        of.stays("15: no such i", BAD_PART, x -> x.mean(m, 1, 0));
        of.stays("15: no such j", BAD_PART, x -> x.mean(1, m, 0));
        of.stays("16: no such i", BAD_PART, x -> x.worth(m, 1, 0));
        of.stays("16: no such j", BAD_PART, x -> x.worth(1, m, 0));
        of.stays("17: no such i", -1, x -> x.slip(m, 1, 0));
        of.stays("17: no such j", -1, x -> x.slip(1, m, 0));
        of.stays("18: no such i", -1, x -> x.like(m, 1));
        of.stays("18: no such j", -1, x -> x.like(1, m));
        of.stays("18: no such machine, twice", -1, x -> x.like(m, m));
        of.stays("19: no such machine", -1, x -> x.smallest(m));
    }

    private static void action() {
        for (int r : new int[] {-1, 1001, LEAST, GREATEST}) {
            SOME.stays("12: r " + r + " is none of 0 to 1000", -1, x -> x.action(0, 1, r));
        }
        TAIL.stays("12: round 0 is of states 0", 1, x -> x.action(0, 1, 0));
        TAIL.stays("12: round 0 of the other one", 2, x -> x.action(1, 0, 0));
        TAIL.stays("12: the last round of the tail", 1, x -> x.action(0, 1, 14));
        TAIL.stays("12: the ring's round", 2, x -> x.action(0, 1, 15));
        TAIL.stays("12: the ring again", 2, x -> x.action(0, 1, 16));
        TAIL.stays("12: round 1000", 2, x -> x.action(0, 1, 1000));
        RING.stays("12: the ring's last round", 1, x -> x.action(1, 0, 15));
        RING.stays("12: its first round again", 0, x -> x.action(1, 0, 16));
        RING.stays("12: round 999 of the ring", 1, x -> x.action(1, 0, 999));
        RING.stays("12: round 1000 of the ring", 0, x -> x.action(1, 0, 1000));
    }

    private static void match() {
        for (int what : Fixtures.outside(4)) {
            SOME.stays("13: what is none of 0 to 3", BAD_SUM, x -> x.match(0, 1, what));
        }
        MOST.stays("13: no tail", 0, x -> x.match(0, 0, 0));
        MOST.stays("13: the shortest ring", 1, x -> x.match(0, 0, 1));
        MOST.stays("13: nothing in no tail", 0, x -> x.match(0, 0, 2));
        MOST.stays("13: one round's pay in the shortest ring", 50, x -> x.match(0, 0, 3));
        RING.stays("13: no tail ahead of the longest ring", 0, x -> x.match(0, 1, 0));
        RING.stays("13: the longest ring", 16, x -> x.match(0, 1, 1));
        RING.stays("13: nothing in no tail", 0, x -> x.match(0, 1, 2));
    }

    private static void matchOfTheLongestTail() {
        TAIL.stays("13: the longest tail", 15, x -> x.match(0, 1, 0));
        TAIL.stays("13: behind it a ring of one", 1, x -> x.match(0, 1, 1));
        TAIL.stays("13: all pays of the longest tail", 121, x -> x.match(0, 1, 2));
        TAIL.stays("13: the ring's pay", 15, x -> x.match(0, 1, 3));
        TAIL.stays("13: the longest tail of the other one", 15, x -> x.match(1, 0, 0));
        TAIL.stays("13: its ring", 1, x -> x.match(1, 0, 1));
        TAIL.stays("13: its pays in the tail", -23, x -> x.match(1, 0, 2));
        TAIL.stays("13: its pay in the ring", 15, x -> x.match(1, 0, 3));
    }

    private static void sum() {
        for (int n : new int[] {-1, 1001, LEAST, GREATEST}) {
            SOME.stays("14: n " + n + " is none of 0 to 1000", BAD_SUM, x -> x.sum(0, 1, n));
        }
        MOST.stays("14: no rounds", 0, x -> x.sum(0, 0, 0));
        MOST.stays("14: one round", 50, x -> x.sum(0, 0, 1));
        MOST.stays("14: the greatest", 50000, x -> x.sum(0, 0, 1000));
        FEWEST.stays("14: the least", -50000, x -> x.sum(0, 0, 1000));
        FEWEST.stays("14: no rounds", 0, x -> x.sum(0, 0, 0));
    }

    private static void sumAtTheEndOfTheTail() {
        TAIL.stays("14: the tail without its last round", 118, x -> x.sum(0, 1, 14));
        TAIL.stays("14: the whole tail", 121, x -> x.sum(0, 1, 15));
        TAIL.stays("14: the tail and the ring", 136, x -> x.sum(0, 1, 16));
        TAIL.stays("14: and the ring again", 151, x -> x.sum(0, 1, 17));
        TAIL.stays("14: 1000 rounds", 121 + 985 * 15, x -> x.sum(0, 1, 1000));
        RING.stays("14: as often round as can be", 62 * RING_SUM + RING_FIRST_8, x -> x.sum(0, 1, 1000));
    }

    private static void mean() {
        for (int what : Fixtures.outside(2)) {
            SOME.stays("15: what is neither 0 nor 1", BAD_PART, x -> x.mean(0, 1, what));
        }
        MOST.stays("15: the greatest", 50, x -> x.mean(0, 0, 0));
        MOST.stays("15: by 1", 1, x -> x.mean(0, 0, 1));
        FEWEST.stays("15: the least has the sign above", -50, x -> x.mean(0, 0, 0));
        FEWEST.stays("15: the denominator is above 0", 1, x -> x.mean(0, 0, 1));
        MOST.is("15: nothing is 0 ..", 0, x -> x.pay(0, 0, 0), x -> x.mean(0, 0, 0));
        MOST.is("15: .. by 1", 1, x -> x.pay(0, 0, 0), x -> x.mean(0, 0, 1));
        TAIL.stays("15: the tail does not count", 15, x -> x.mean(0, 1, 0));
        RING.stays("15: 11 by 16 in lowest terms", 11, x -> x.mean(0, 1, 0));
        RING.stays("15: 11 by 16 in lowest terms", 16, x -> x.mean(0, 1, 1));
        RING.is("15: 8 by 16 is 1 ..", 1, x -> x.pay(2, 0, -48), x -> x.mean(0, 1, 0));
        RING.is("15: .. by 2", 2, x -> x.pay(2, 0, -48), x -> x.mean(0, 1, 1));
        RING.is("15: -21 by 16 ..", -21, x -> x.pay(1, 1, 33), x -> x.mean(0, 1, 0));
        RING.is("15: .. is in lowest terms", 16, x -> x.pay(1, 1, 33), x -> x.mean(0, 1, 1));
        RING.is("15: -24 by 16 is -3 ..", -3, x -> x.pay(2, 0, -48), x -> x.pay(1, 1, 33), x -> x.mean(0, 1, 0));
        RING.is("15: .. by 2", 2, x -> x.pay(2, 0, -48), x -> x.pay(1, 1, 33), x -> x.mean(0, 1, 1));
    }

    private static void worth() {
        for (int what : Fixtures.outside(2)) {
            SOME.stays("16: what is neither 0 nor 1", BAD_PART, x -> x.worth(0, 1, what));
        }
        MOST.is("16: the greatest", 200, x -> x.discount(3, 4), x -> x.worth(0, 0, 0));
        MOST.is("16: by 1", 1, x -> x.discount(3, 4), x -> x.worth(0, 0, 1));
        FEWEST.is("16: the least has the sign above", -200, x -> x.discount(3, 4), x -> x.worth(0, 0, 0));
        FEWEST.is("16: the denominator is above 0", 1, x -> x.discount(3, 4), x -> x.worth(0, 0, 1));
        FEWEST.is("16: at the least discount", -200, x -> x.discount(1, 4), x -> x.worth(0, 0, 0));
        FEWEST.is("16: at the least discount", 3, x -> x.discount(1, 4), x -> x.worth(0, 0, 1));
        MOST.is("16: nothing is 0 ..", 0, x -> x.pay(0, 0, 0), x -> x.worth(0, 0, 0));
        MOST.is("16: .. by 1", 1, x -> x.pay(0, 0, 0), x -> x.worth(0, 0, 1));
        MOST.is("16: 2 by 4 is 1 by 2", 100, x -> x.discount(2, 4), x -> x.worth(0, 0, 0));
    }

    /** Reckoned in fractions of any size by other means. */
    private static void worthOfTheLongest() {
        TAIL.stays("16: the longest tail", 15043, x -> x.worth(0, 1, 0));
        TAIL.stays("16: the longest tail", 1024, x -> x.worth(0, 1, 1));
        TAIL.is("16: at 3 by 4", 933674195, x -> x.discount(3, 4), x -> x.worth(1, 0, 0));
        TAIL.is("16: at 3 by 4", 268435456, x -> x.discount(3, 4), x -> x.worth(1, 0, 1));
        TAIL.is("16: at 1 by 4", 3293217867L, x -> x.discount(1, 4), x -> x.worth(1, 0, 0));
        TAIL.is("16: at 1 by 4", 268435456, x -> x.discount(1, 4), x -> x.worth(1, 0, 1));
        RING.is("16: the longest ring", -497385052084L, x -> x.discount(3, 4), x -> x.worth(1, 0, 0));
        RING.is("16: 4 to the 16 less 3 to the 16", 4251920575L, x -> x.discount(3, 4), x -> x.worth(1, 0, 1));
        RING.is("16: the longest ring", -273948567772L, x -> x.discount(1, 4), x -> x.worth(1, 0, 0));
        RING.is("16: 4 to the 16 less 1", 4294967295L, x -> x.discount(1, 4), x -> x.worth(1, 0, 1));
    }

    private static void slipRefused() {
        for (int r : new int[] {-1, 101, 1000, LEAST, GREATEST}) {
            SOME.stays("17: r " + r + " is none of 0 to 100", -1, x -> x.slip(0, 1, r));
        }
    }

    /** Machine 0 does one action for ever; machine 1 stays where it is but for the one that it hears. */
    private static void slipOfTheNextAction() {
        for (int a = 0; a < 3; a++) {
            for (int heard = 0; heard < 3; heard++) {
                int action = a;
                int hears = heard;
                Edges of = new Edges(DUE, () -> {
                    AgainAgain x = new AgainAgain();
                    Fixtures.steady(x, action);
                    x.machine(2);
                    x.goes(1, 0, hears, 1);
                    x.goes(1, 1, action, 0);
                    return x;
                });
                String slip = "17: for " + a + " it does " + (a + 1) % 3 + ", the other one hears " + heard;
                of.stays(slip, heard == a ? -4 : heard == (a + 1) % 3 ? 2 : 1, x -> x.slip(0, 1, 0));
            }
        }
    }

    private static void slipOfRounds() {
        MOST.stays("17: one state each: in their places as the next round begins", 1, x -> x.slip(0, 0, 0));
        MOST.stays("17: round 100", 1, x -> x.slip(0, 0, 100));
        Edges tit = new Edges(DUE, Fixtures::dilemmaOfThree);
        tit.stays("17: never", -4, x -> x.slip(2, 2, 0));
        tit.stays("17: never, from round 100 on", -4, x -> x.slip(2, 2, 100));
        Edges turns = new Edges(DUE, () -> {
            AgainAgain x = new AgainAgain();
            Fixtures.steady(x, 0);
            Fixtures.machineOf(x, new int[] {0, 1, 1, 1}, new int[] {0, 0, 2, 0}, new int[] {0, 2, 2, 2});
            return x;
        });
        turns.stays("17: round 98, not heard", 1, x -> x.slip(0, 1, 98));
        turns.stays("17: round 99, heard for ever", -4, x -> x.slip(0, 1, 99));
        turns.stays("17: round 100, not heard", 1, x -> x.slip(0, 1, 100));
    }

    private static void slipAndTheLongestWait() {
        int[] waits = {15, 1, 13, 16, 15, 10, 13, 1, 9, 1, 11, 8, 7, 16, 5, 1, 1};
        for (int r = 0; r < waits.length; r++) {
            int round = r;
            TAIL.stays("17: round " + r + " of the longest tail", waits[r], x -> x.slip(0, 1, round));
        }
        TAIL.stays("17: 16 rounds is the longest wait", 16, x -> x.slip(1, 0, 7));
        TAIL.is("17: it is but asked for: the match goes on without it", 15, x -> x.slip(0, 1, 3),
            x -> x.match(0, 1, 0));
        TAIL.stays("17: round 100 of the other one", 8, x -> x.slip(1, 0, 100));
    }

    private static void like() {
        SOME.stays("18: one is like itself", 1, x -> x.like(3, 3));
        SOME.stays("18: unlike", 0, x -> x.like(0, 1));
        NEW.is("18: of one state and of four", 1, x -> x.machine(1), x -> x.machine(4), x -> x.like(0, 1));
        NEW.is("18: of four states and of one", 1, x -> x.machine(4), x -> x.machine(1), x -> x.like(0, 1));
        NEW.is("18: a state that never comes does not count", 1, x -> x.machine(1), x -> x.machine(4),
            x -> x.does(1, 3, 1), x -> x.like(0, 1));
        NEW.is("18: one that comes only if 2 is done counts", 0, x -> x.machine(1), x -> x.machine(4),
            x -> x.does(1, 3, 1), x -> x.goes(1, 0, 2, 3), x -> x.like(0, 1));
        NEW.is("18: all 16 pairs come, and are the same", 1, x -> Fixtures.roundabout(x, 0, 0, 0, 0),
            x -> Fixtures.machineOf(x, new int[] {0, 1, 0, 0}, new int[] {0, 2, 1, 1}, new int[] {0, 3, 2, 2},
                new int[] {0, 0, 3, 3}), x -> x.like(0, 1));
        NEW.is("18: the last of the pairs differs", 0, x -> Fixtures.roundabout(x, 0, 0, 0, 0),
            x -> Fixtures.roundabout(x, 0, 0, 0, 1), x -> x.like(0, 1));
        NEW.is("18: rings of three and of four", 0, x -> Fixtures.roundabout(x, 0, 0, 0),
            x -> Fixtures.roundabout(x, 0, 0, 0, 2), x -> x.like(0, 1));
    }

    private static void smallest() {
        SOME.stays("19: the least", 1, x -> x.smallest(0));
        NEW.is("19: the least, of four states", 1, x -> x.machine(4), x -> x.smallest(0));
        NEW.is("19: all four", 4, x -> Fixtures.roundabout(x, 0, 0, 0, 1), x -> x.smallest(0));
        NEW.is("19: two and two", 2, x -> Fixtures.roundabout(x, 0, 1, 0, 1), x -> x.smallest(0));
        NEW.is("19: three do not fold", 3, x -> Fixtures.roundabout(x, 0, 1, 0), x -> x.smallest(0));
        NEW.is("19: one that never comes does not count", 1, x -> x.machine(2), x -> x.does(0, 1, 1),
            x -> x.smallest(0));
        NEW.is("19: one that comes only if 2 is done counts", 2, x -> x.machine(2), x -> x.does(0, 1, 1),
            x -> x.goes(0, 0, 2, 1), x -> x.smallest(0));
        SOME.stays("19: the machine keeps its states", 4, x -> x.smallest(3));
        ALL.stays("19: the 12th", 1, x -> x.smallest(11));
    }
}
