/** The edges of promises 28 to 30, in the document's order, a row for each; each row has an object of its own. */
public final class CountEdgesTest {
    private static final int LEAST = Integer.MIN_VALUE;
    private static final int GREATEST = Integer.MAX_VALUE;
    private static final long BAD_SUM = -1000000;

    private static final Due DUE = new Due();
    private static final Edges NEW = new Edges(DUE, AgainAgain::new);
    private static final Edges SOME = new Edges(DUE, Fixtures::someOfAll);
    private static final Edges ALL = new Edges(DUE, Fixtures::allFull);
    private static final Edges TWELVE = new Edges(DUE, CountEdgesTest::twelve);

    public static void main(String[] args) {
        scoreRefused();
        score();
        placeRefused();
        placeOfLikes();
        placeOfOthers();
        countRefused();
        countOfMachines();
        countOfUnlike();
        countOfPairs();
        countOfCells();
        DUE.end();
    }

    /** Twelve machines of four states that are all like, but for one: the sixth does 2. */
    private static AgainAgain twelve() {
        AgainAgain x = new AgainAgain();
        while (x.machine(4) >= 0) {
            x.does(x.count(0) - 1, 3, 1);
        }
        x.does(5, 0, 2);
        return x;
    }

    private static void scoreRefused() {
        NEW.stays("28: there is no machine", BAD_SUM, x -> x.score(0, 0));
        ALL.stays("28: no 13th machine", BAD_SUM, x -> x.score(12, 0));
        for (int m : Fixtures.outside(4)) {
            SOME.stays("28: no such machine", BAD_SUM, x -> x.score(m, 1));
        }
        for (int n : new int[] {-1, 1001, LEAST, GREATEST}) {
            SOME.stays("28: n " + n + " is none of 0 to 1000", BAD_SUM, x -> x.score(0, n));
        }
    }

    private static void score() {
        SOME.stays("28: no rounds", 0, x -> x.score(3, 0));
        NEW.is("28: itself too", 7, x -> x.machine(1), x -> x.pay(0, 0, 7), x -> x.score(0, 1));
        TWELVE.is("28: the greatest", 600000, x -> x.does(5, 0, 0), x -> x.pay(0, 0, 50), x -> x.score(11, 1000));
        TWELVE.is("28: the least is not BAD", -600000, x -> x.does(5, 0, 0), x -> x.pay(0, 0, -50),
            x -> x.score(0, 1000));
        TWELVE.is("28: against one alone", 1000, x -> x.pay(0, 2, 1), x -> x.score(11, 1000));
        TWELVE.is("28: against all others", 11000, x -> x.pay(2, 0, 1), x -> x.score(5, 1000));
    }

    private static void placeRefused() {
        for (int p : new int[] {-1, LEAST}) {
            SOME.stays("29: p " + p + " is below 0", -1, x -> x.place(p, 1));
        }
        for (int n : new int[] {-1, 1001, LEAST, GREATEST}) {
            SOME.stays("29: n " + n + " is none of 0 to 1000", -1, x -> x.place(0, n));
            SOME.stays("29: n " + n + " is BAD, ahead of NONE", -1, x -> x.place(4, n));
            NEW.stays("29: n " + n + " is BAD, ahead of NONE", -1, x -> x.place(0, n));
        }
        NEW.stays("29: p is BAD, ahead of NONE", -1, x -> x.place(-1, 0));
        NEW.stays("29: no machines, no place 0", -4, x -> x.place(0, 0));
        for (int p : new int[] {4, 5, 11, 12, GREATEST}) {
            SOME.stays("29: NONE of place " + p, -4, x -> x.place(p, 1000));
        }
        ALL.stays("29: NONE of place 12", -4, x -> x.place(12, 1));
    }

    private static void placeOfLikes() {
        for (int p = 0; p < 12; p++) {
            int place = p;
            TWELVE.stays("29: all scores alike: by number", p, x -> x.place(place, 1000));
            ALL.stays("29: no rounds: by number", p, x -> x.place(place, 0));
        }
    }

    private static void placeOfOthers() {
        for (int p = 0; p < 12; p++) {
            int place = p;
            TWELVE.is("29: the sixth ahead, then by number", p == 0 ? 5 : p <= 5 ? p - 1 : p, x -> x.pay(2, 0, 1),
                x -> x.place(place, 1000));
            TWELVE.is("29: the sixth behind, the others by number", p == 11 ? 5 : p < 5 ? p : p + 1,
                x -> x.pay(2, 0, -1), x -> x.place(place, 1));
        }
        NEW.is("29: the only one", 0, x -> x.machine(1), x -> x.place(0, 0));
        NEW.is("29: below 0 are places too", 0, x -> x.machine(1), x -> x.pay(0, 0, -50), x -> x.place(0, 1000));
        TWELVE.is("29: machine 0 by its score as it is now", 5, x -> x.pay(0, 0, 1), x -> x.place(0, 9),
            x -> x.pay(0, 0, -1), x -> x.place(0, 9));
        TWELVE.is("29: who has gone has no place", -4, x -> x.drop(), x -> x.place(11, 1));
    }

    private static void countRefused() {
        for (int what : Fixtures.outside(4)) {
            SOME.stays("30: what is none of 0 to 3", -1, x -> x.count(what));
            NEW.stays("30: what is none of 0 to 3", -1, x -> x.count(what));
        }
    }

    private static void countOfMachines() {
        NEW.stays("30: no machines", 0, x -> x.count(0));
        SOME.stays("30: machines", 4, x -> x.count(0));
        ALL.stays("30: as many as can be", 12, x -> x.count(0));
        ALL.is("30: one less", 11, x -> x.drop(), x -> x.count(0));
    }

    private static void countOfUnlike() {
        NEW.stays("30: no unlike ones of none", 0, x -> x.count(1));
        NEW.is("30: one is unlike", 1, x -> x.machine(4), x -> x.count(1));
        TWELVE.stays("30: the sixth is unlike", 2, x -> x.count(1));
        TWELVE.is("30: all are like", 1, x -> x.does(5, 0, 0), x -> x.count(1));
        TWELVE.is("30: the 12th is unlike too", 3, x -> x.does(11, 0, 1), x -> x.count(1));
        TWELVE.is("30: the 12th is like the sixth", 2, x -> x.does(11, 0, 2), x -> x.count(1));
        NEW.is("30: all 12 are unlike", 12, x -> manyUnlike(x, 12), x -> x.count(1));
    }

    /** Machines that begin with one of 3 actions and go on with one of four ways. */
    private static int manyUnlike(AgainAgain x, int many) {
        for (int m = 0; m < many; m++) {
            int second = m / 3;
            int heard = second % 3;
            int[] first = {m % 3, 0, 0, 0};
            first[1 + heard] = second == 3 ? 0 : 1;
            Fixtures.machineOf(x, first, new int[] {(m + 1) % 3, 1, 1, 1});
        }
        return x.count(0);
    }

    private static void countOfPairs() {
        NEW.stays("30: no pairs of none", 0, x -> x.count(2));
        NEW.is("30: one with itself", 1, x -> x.machine(1), x -> x.count(2));
        NEW.is("30: two: three pairs", 3, x -> x.machine(1), x -> x.machine(4), x -> x.count(2));
        TWELVE.stays("30: all pairs of 12", 78, x -> x.count(2));
        TWELVE.is("30: one that rests with none", 66, x -> x.pay(2, 0, -1), x -> x.pay(0, 2, 1), x -> x.count(2));
        TWELVE.is("30: none rests", 0, x -> x.pay(1, 0, 1), x -> x.pay(1, 2, 1), x -> x.count(2));
        NEW.is("30: a pair that rests the second way round counts once", 1, x -> Fixtures.steady(x, 0),
            x -> Fixtures.steady(x, 1), x -> x.pay(1, 0, 1), x -> x.pay(0, 1, 1), x -> x.count(2));
    }

    private static void countOfCells() {
        NEW.stays("30: NONE, as sheet 0 is nothing", -4, x -> x.count(3));
        NEW.is("30: NONE, though another one is there", -4, x -> x.sheet(1, 0, 3), x -> x.count(3));
        NEW.is("30: no cells are 0", 0, x -> x.sheet(0, 0, 0), x -> x.count(3));
        NEW.is("30: 60 cells", 60, x -> x.sheet(0, 1, 60), x -> x.count(3));
        NEW.is("30: the latest row's", 2, x -> x.sheet(0, 1, 60), x -> x.sheet(0, 0, 2), x -> x.count(3));
        SOME.stays("30: cells", 9, x -> x.count(3));
    }
}
