/** Objects that several tests begin with. */
final class Fixtures {
    private static final int[] NO_NUMBER = {-1, Integer.MIN_VALUE, Integer.MAX_VALUE};

    private Fixtures() {
    }

    /** Numbers that are none of 0 up to (but without) many. */
    static int[] outside(int many) {
        return new int[] {NO_NUMBER[0], NO_NUMBER[1], NO_NUMBER[2], many};
    }

    /** A machine of one state that does an action for ever. */
    static int steady(AgainAgain x, int action) {
        int m = x.machine(1);
        x.does(m, 0, action);
        return m;
    }

    /** The prisoners' dilemma: action 0 helps, 1 takes; 2 brings nothing to anyone. */
    static AgainAgain dilemma() {
        AgainAgain x = new AgainAgain();
        x.pay(0, 0, 3);
        x.pay(1, 0, 5);
        x.pay(1, 1, 1);
        return x;
    }

    /** The dilemma, with machines 0 always helping, 1 always taking, 2 tit for tat. */
    static AgainAgain dilemmaOfThree() {
        AgainAgain x = dilemma();
        steady(x, 0);
        steady(x, 1);
        titForTat(x);
        return x;
    }

    static int titForTat(AgainAgain x) {
        int m = x.machine(2);
        x.does(m, 1, 1);
        x.goes(m, 0, 1, 1);
        x.goes(m, 1, 0, 0);
        return m;
    }

    /** Takes for ever, once the other one has not helped. */
    static int grim(AgainAgain x) {
        int m = x.machine(2);
        x.does(m, 1, 1);
        x.goes(m, 0, 1, 1);
        x.goes(m, 0, 2, 1);
        return m;
    }

    /**
     * Machine 0 goes its states 0, 1, 2, 3, 2, 3, .. and does 0, 1, 2, 1, 2, 1, ..; machine 1 does 0 for ever.
     * The pays of 0 are 5, 3, -4, 3, -4, ..
     */
    static AgainAgain tailTwoRingTwo() {
        AgainAgain x = new AgainAgain();
        x.pay(0, 0, 5);
        x.pay(1, 0, 3);
        x.pay(2, 0, -4);
        x.machine(4);
        x.does(0, 1, 1);
        x.does(0, 2, 2);
        x.does(0, 3, 1);
        x.goes(0, 0, 0, 1);
        x.goes(0, 1, 0, 2);
        x.goes(0, 2, 0, 3);
        x.goes(0, 3, 0, 2);
        steady(x, 0);
        return x;
    }
}
