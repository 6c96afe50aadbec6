/** Objects that several tests begin with. */
final class Fixtures {
    private static final int[] NO_NUMBER = {-1, Integer.MIN_VALUE, Integer.MAX_VALUE};

    private Fixtures() {
    }

    /** Numbers that are none of 0 up to (but without) many. */
    static int[] outside(int many) {
        return new int[] {NO_NUMBER[0], NO_NUMBER[1], NO_NUMBER[2], many};
    }

    /** A machine of one state that does an action for ever. */
    static int steady(AgainAgain x, int action) {
        int m = x.machine(1);
        x.does(m, 0, action);
        return m;
    }

    /** A machine of rows, a state each: its action, then its next states. */
    static int machineOf(AgainAgain x, int[]... rows) {
        int m = x.machine(rows.length);
        for (int s = 0; s < rows.length; s++) {
            x.does(m, s, rows[s][0]);
            for (int a = 0; a < 3; a++) {
                x.goes(m, s, a, rows[s][1 + a]);
            }
        }
        return m;
    }

    /** A machine that goes round its states whatever is done; it does one action in each. */
    static int roundabout(AgainAgain x, int... actions) {
        int[][] rows = new int[actions.length][];
        for (int s = 0; s < rows.length; s++) {
            int next = (s + 1) % rows.length;
            rows[s] = new int[] {actions[s], next, next, next};
        }
        return machineOf(x, rows);
    }

    /** Lays numbers from a cell on. */
    static void layAll(AgainAgain x, int k, int from, int... numbers) {
        for (int i = 0; i < numbers.length; i++) {
            x.lay(k, from + i, numbers[i]);
        }
    }

    /** Nine numbers: PAY(0, 0), PAY(0, 1), .. PAY(2, 2). */
    static void payAll(AgainAgain x, int... numbers) {
        for (int i = 0; i < numbers.length; i++) {
            x.pay(i / 3, i % 3, numbers[i]);
        }
    }

    /** The prisoners' dilemma: action 0 helps, 1 takes; 2 brings nothing to anyone. */
    static AgainAgain dilemma() {
        AgainAgain x = new AgainAgain();
        x.pay(0, 0, 3);
        x.pay(1, 0, 5);
        x.pay(1, 1, 1);
        return x;
    }

    /** The dilemma, with machines 0 always helping, 1 always taking, 2 tit for tat. */
    static AgainAgain dilemmaOfThree() {
        AgainAgain x = dilemma();
        steady(x, 0);
        steady(x, 1);
        titForTat(x);
        return x;
    }

    static int titForTat(AgainAgain x) {
        int m = x.machine(2);
        x.does(m, 1, 1);
        x.goes(m, 0, 1, 1);
        x.goes(m, 1, 0, 0);
        return m;
    }

    /** Takes for ever, once the other one has not helped. */
    static int grim(AgainAgain x) {
        int m = x.machine(2);
        x.does(m, 1, 1);
        x.goes(m, 0, 1, 1);
        x.goes(m, 0, 2, 1);
        return m;
    }

    /**
     * Machine 0 goes its states 0, 1, 2, 3, 2, 3, .. and does 0, 1, 2, 1, 2, 1, ..; machine 1 does 0 for ever.
     * The pays of 0 are 5, 3, -4, 3, -4, ..
     */
    static AgainAgain tailTwoRingTwo() {
        AgainAgain x = new AgainAgain();
        x.pay(0, 0, 5);
        x.pay(1, 0, 3);
        x.pay(2, 0, -4);
        x.machine(4);
        x.does(0, 1, 1);
        x.does(0, 2, 2);
        x.does(0, 3, 1);
        x.goes(0, 0, 0, 1);
        x.goes(0, 1, 0, 2);
        x.goes(0, 2, 0, 3);
        x.goes(0, 3, 0, 2);
        steady(x, 0);
        return x;
    }

    /**
     * Something of everything: machines 0 to 3 of as many states as their number and one, each pay another one, a
     * discount of 2 by 3, sheets of bytes, of shorts, of no ints, and sheet 3 of nothing.
     */
    static AgainAgain someOfAll() {
        AgainAgain x = new AgainAgain();
        payAll(x, -7, -6, -5, 3, 4, 5, 13, 14, 15);
        x.discount(2, 3);
        steady(x, 2);
        titForTat(x);
        machineOf(x, new int[] {0, 1, 2, 0}, new int[] {2, 2, 0, 1}, new int[] {1, 0, 1, 2});
        machineOf(x, new int[] {1, 3, 0, 2}, new int[] {0, 2, 1, 3}, new int[] {2, 1, 1, 0}, new int[] {1, 0, 3, 3});
        x.sheet(0, 0, 9);
        layAll(x, 0, 0, 1, 1, 0, 1, 2, 1, 1, 0, 9);
        x.sheet(1, 1, 5);
        layAll(x, 1, 0, 2, 0, 0, 0, 1);
        x.sheet(2, 2, 0);
        return x;
    }

    /** The same with as many machines as can be, the last of one state. */
    static AgainAgain allFull() {
        AgainAgain x = someOfAll();
        while (x.machine(1) >= 0) {
            x.does(x.count(0) - 1, 0, 1);
        }
        return x;
    }

    /** All four states of each, every pair of them: the longest tail, 15 rounds, and the shortest ring, of one. */
    static AgainAgain longestTail() {
        AgainAgain x = new AgainAgain();
        machineOf(x, new int[] {1, 1, 0, 1}, new int[] {2, 3, 0, 1}, new int[] {2, 0, 0, 3}, new int[] {1, 2, 1, 2});
        machineOf(x, new int[] {2, 0, 3, 0}, new int[] {0, 0, 1, 2}, new int[] {0, 0, 2, 3}, new int[] {0, 1, 0, 1});
        return x;
    }

    /**
     * The longest ring, of all 16 pairs: machine 1 goes round, doing 1 in its last state alone; machine 0 does four
     * actions, and goes on when it hears that 1.
     */
    static AgainAgain longestRing(int... actions) {
        AgainAgain x = new AgainAgain();
        int[][] rows = new int[4][];
        for (int s = 0; s < 4; s++) {
            rows[s] = new int[] {actions[s], s, (s + 1) % 4, s};
        }
        machineOf(x, rows);
        roundabout(x, 0, 0, 0, 1);
        return x;
    }
}
