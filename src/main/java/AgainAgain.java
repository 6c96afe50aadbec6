import java.util.Arrays;

/** A small game of two, played on and on by machines that remember. */
public final class AgainAgain {
    public static final int BAD = -1, STATE = -2, FULL = -3, NONE = -4;

    private static final int BAD_SUM = -1000000;
    private static final long BAD_PART = -1000000000000000L;

    private static final int MOST_PAY = 50;
    private static final int MOST_ROUNDS = 1000;
    private static final int LATEST_SLIP = 100;

    // A machine on a sheet: of each state the action, then a next state for each action.
    private static final int CELLS_OF_STATE = 1 + Game.ACTIONS;

    private static final int NULL_FAULT = -11;
    private static final int INDEX_FAULT = -12;
    private static final int CAST_FAULT = -13;
    private static final int SIZE_FAULT = -14;
    private static final int FIRST_CELL_FAULT = -20;

    private final Game game = new Game();
    private final Machines machines = new Machines();
    private final Sheets sheets = new Sheets();
    private final Likeness likeness = new Likeness();
    private final Plans plans = new Plans();
    private final Walk walk = new Walk();
    private final Walk back = new Walk();
    private final Ratio ratio = new Ratio();
    private final Ratio other = new Ratio();
    private final int[] scores = new int[Machines.MOST];

    public AgainAgain() {
    }

    public int pay(int a, int b, int v) {
        if (!isAction(a) || !isAction(b) || !within(v, -MOST_PAY, MOST_PAY)) {
            return BAD;
        }
        game.setGain(a, b, v);
        return 1;
    }

    public int discount(int p, int q) {
        if (!within(q, 2, 4) || !within(p, 1, q - 1)) {
            return BAD;
        }
        game.setRate(p, q);
        return 1;
    }

    public int machine(int n) {
        if (!within(n, 1, Machines.MOST_STATES)) {
            return BAD;
        }
        return machines.isFull() ? FULL : machines.add(n);
    }

    public int does(int m, int s, int action) {
        if (!machines.hasState(m, s) || !isAction(action)) {
            return BAD;
        }
        machines.setAction(m, s, action);
        return 1;
    }

    public int goes(int m, int s, int a, int next) {
        if (!machines.hasState(m, s) || !isAction(a) || !machines.hasState(m, next)) {
            return BAD;
        }
        machines.setNext(m, s, a, next);
        return 1;
    }

    public int told(int m, int s, int what) {
        if (!machines.hasState(m, s) || !within(what, 0, 3)) {
            return BAD;
        }
        return what == 0 ? machines.actionOf(m, s) : machines.nextOf(m, s, what - 1);
    }

    public int drop() {
        return machines.many() == 0 ? NONE : machines.removeLatest();
    }

    public int sheet(int k, int lane, int n) {
        if (!Sheets.isSheet(k) || !Sheets.isLane(lane) || n > Sheets.MOST_CELLS) {
            return BAD;
        }
        if (n < 0) {
            return SIZE_FAULT;
        }
        sheets.layOut(k, lane, n);
        return 1;
    }

    public int lay(int k, int i, int v) {
        if (!Sheets.isSheet(k)) {
            return BAD;
        }
        if (!sheets.isThere(k)) {
            return NULL_FAULT;
        }
        if (!sheets.hasCell(k, i)) {
            return INDEX_FAULT;
        }
        sheets.setCell(k, i, v);
        return 1;
    }

    public int draw(int k, int lane, int f, int n) {
        if (!Sheets.isSheet(k) || !Sheets.isLane(lane) || !within(n, 1, Machines.MOST_STATES)) {
            return BAD;
        }
        if (!sheets.isThere(k)) {
            return NULL_FAULT;
        }
        if (sheets.laneOf(k) != lane) {
            return CAST_FAULT;
        }
        int fault = cellFault(k, f, n);
        if (fault != 0) {
            return fault;
        }
        return machines.isFull() ? FULL : readMachine(k, f, n);
    }

    public int action(int i, int j, int r) {
        if (!areMachines(i, j) || !within(r, 0, MOST_ROUNDS)) {
            return BAD;
        }
        playOut(i, j);
        return machines.actionOf(i, Walk.mine(walk.placeIn(r)));
    }

    public int match(int i, int j, int what) {
        if (!areMachines(i, j) || !within(what, 0, 3)) {
            return BAD_SUM;
        }
        playOut(i, j);
        switch (what) {
            case 0:
                return walk.tail();
            case 1:
                return walk.ring();
            case 2:
                return walk.tailGains();
            default:
                return walk.ringGains();
        }
    }

    public int sum(int i, int j, int n) {
        if (!areMachines(i, j) || !within(n, 0, MOST_ROUNDS)) {
            return BAD_SUM;
        }
        return gainsOf(i, j, n);
    }

    public long mean(int i, int j, int what) {
        if (!areMachines(i, j) || !within(what, 0, 1)) {
            return BAD_PART;
        }
        playOut(i, j);
        ratio.become(walk.ringGains(), walk.ring());
        return ratio.part(what);
    }

    public long worth(int i, int j, int what) {
        if (!areMachines(i, j) || !within(what, 0, 1)) {
            return BAD_PART;
        }
        matchWorth(i, j, ratio);
        return ratio.part(what);
    }

    public int slip(int i, int j, int r) {
        if (!areMachines(i, j) || !within(r, 0, LATEST_SLIP)) {
            return BAD;
        }
        playOut(i, j);
        int meeting = walk.meeting(walk.placeIn(r + 1), placeBehindSlip(i, j, walk.placeIn(r)));
        return meeting < 0 ? NONE : meeting + 1;
    }

    public int like(int i, int j) {
        if (!areMachines(i, j)) {
            return BAD;
        }
        return oneIf(likeness.areLike(machines, i, j));
    }

    public int smallest(int m) {
        if (!machines.has(m)) {
            return BAD;
        }
        return likeness.unlikeStates(machines, m);
    }

    public int best(int m, int s) {
        if (!machines.hasState(m, s)) {
            return BAD;
        }
        plans.learn(game, machines, m, s);
        return plans.bestPlan(m, s);
    }

    public long bestWorth(int m, int s, int what) {
        if (!machines.hasState(m, s) || !within(what, 0, 1)) {
            return BAD_PART;
        }
        plans.learn(game, machines, m, s);
        return plans.bestPart(m, s, what);
    }

    public long planWorth(int m, int s, int plan, int what) {
        if (!machines.hasState(m, s) || !within(what, 0, 1)) {
            return BAD_PART;
        }
        if (!within(plan, 0, Plans.plansAgainst(machines.statesOf(m)) - 1)) {
            return BAD_PART;
        }
        plans.weigh(game, machines, m, s, plan, ratio);
        return ratio.part(what);
    }

    public int rest(int i, int j) {
        if (!areMachines(i, j)) {
            return BAD;
        }
        plans.learn(game, machines, i, 0);
        plans.learn(game, machines, j, 0);
        takeBothSides(i, j);
        return oneIf(restFrom(i, 0, j, 0));
    }

    public int everywhere(int i, int j) {
        if (!areMachines(i, j)) {
            return BAD;
        }
        plans.learnAll(game, machines, i);
        plans.learnAll(game, machines, j);
        takeBothSides(i, j);
        return oneIf(firstUnrest(i, j) < 0);
    }

    public int deviation(int i, int j, int what) {
        if (!areMachines(i, j) || !within(what, 0, 2)) {
            return BAD;
        }
        plans.learnAll(game, machines, i);
        plans.learnAll(game, machines, j);
        takeBothSides(i, j);
        int pair = firstUnrest(i, j);
        if (pair < 0) {
            return NONE;
        }
        return what == 0 ? pair : deviationFrom(i, Walk.mine(pair), j, Walk.theirs(pair), what);
    }

    public int resists(int j, int i) {
        if (!areMachines(i, j) || i == j) {
            return BAD;
        }
        return oneIf(withstands(j, i));
    }

    public int invaders(int j) {
        if (!machines.has(j)) {
            return BAD;
        }
        int all = 0;
        for (int i = 0; i < machines.many(); i++) {
            if (i != j && !withstands(j, i)) {
                all += 1 << i;
            }
        }
        return all;
    }

    public int score(int i, int n) {
        if (!machines.has(i) || !within(n, 0, MOST_ROUNDS)) {
            return BAD_SUM;
        }
        return gainsAgainstAll(i, n);
    }

    public int place(int p, int n) {
        if (p < 0 || !within(n, 0, MOST_ROUNDS)) {
            return BAD;
        }
        for (int m = 0; m < machines.many(); m++) {
            scores[m] = gainsAgainstAll(m, n);
        }
        for (int m = 0; m < machines.many(); m++) {
            if (machinesAheadOf(m) == p) {
                return m;
            }
        }
        return NONE;
    }

    public int count(int what) {
        switch (what) {
            case 0:
                return machines.many();
            case 1:
                return likeness.unlikeMachines(machines);
            case 2:
                return restingPairs();
            case 3:
                return sheets.isThere(0) ? sheets.cellsOf(0) : NONE;
            default:
                return BAD;
        }
    }

    private static boolean within(int number, int least, int most) {
        return number >= least && number <= most;
    }

    private static boolean isAction(int a) {
        return within(a, 0, Game.ACTIONS - 1);
    }

    private static int oneIf(boolean holds) {
        return holds ? 1 : 0;
    }

    private boolean areMachines(int i, int j) {
        return machines.has(i) && machines.has(j);
    }

    /** What is wrong with the cells of a machine on a sheet that is there: the first fault, or 0. */
    private int cellFault(int k, int f, int n) {
        for (int i = 0; i < CELLS_OF_STATE * n; i++) {
            if (!sheets.hasCell(k, f + i)) {
                return INDEX_FAULT;
            }
            int most = i % CELLS_OF_STATE == 0 ? Game.ACTIONS - 1 : n - 1;
            if (!within(sheets.cell(k, f + i), 0, most)) {
                return FIRST_CELL_FAULT - i;
            }
        }
        return 0;
    }

    /** Makes the machine whose cells have been found without fault. */
    private int readMachine(int k, int f, int n) {
        int m = machines.add(n);
        for (int s = 0; s < n; s++) {
            int row = f + CELLS_OF_STATE * s;
            machines.setAction(m, s, sheets.cell(k, row));
            for (int a = 0; a < Game.ACTIONS; a++) {
                machines.setNext(m, s, a, sheets.cell(k, row + 1 + a));
            }
        }
        return m;
    }

    private void playOut(int i, int j) {
        walk.takeMatch(game, machines, i, j);
        walk.startAt(0);
    }

    private int gainsOf(int i, int j, int n) {
        playOut(i, j);
        return walk.gainsOfFirst(n);
    }

    private void matchWorth(int i, int j, Ratio result) {
        playOut(i, j);
        walk.worthInto(game, result);
    }

    /** The pair of states as the next round begins, if i slips in the round that begins at a place. */
    private int placeBehindSlip(int i, int j, int place) {
        int s = Walk.mine(place);
        int t = Walk.theirs(place);
        int slipped = (machines.actionOf(i, s) + 1) % Game.ACTIONS;
        return Walk.placeOf(machines.nextOf(i, s, machines.actionOf(j, t)), machines.nextOf(j, t, slipped));
    }

    /** To be called ahead of restFrom, as the plans are to be learnt that it compares with. */
    private void takeBothSides(int i, int j) {
        walk.takeMatch(game, machines, i, j);
        back.takeMatch(game, machines, j, i);
    }

    /** Whether the best plan against a machine from a state is worth more than a walk from a place. */
    private boolean gainsByPlan(Walk way, int place, int against, int state) {
        way.startAt(place);
        way.worthInto(game, ratio);
        return plans.bestCompared(against, state, ratio) > 0;
    }

    private boolean restFrom(int i, int s, int j, int t) {
        return !gainsByPlan(walk, Walk.placeOf(s, t), j, t) && !gainsByPlan(back, Walk.placeOf(t, s), i, s);
    }

    /** Of a pair of states from which two do not rest: the side that gains (what 1), its plan (what 2). */
    private int deviationFrom(int i, int s, int j, int t, int what) {
        boolean ofI = gainsByPlan(walk, Walk.placeOf(s, t), j, t);
        if (what == 1) {
            return ofI ? 0 : 1;
        }
        return ofI ? plans.bestPlan(j, t) : plans.bestPlan(i, s);
    }

    /** The first pair of states from which two do not rest, or -1. */
    private int firstUnrest(int i, int j) {
        for (int s = 0; s < machines.statesOf(i); s++) {
            for (int t = 0; t < machines.statesOf(j); t++) {
                if (!restFrom(i, s, j, t)) {
                    return Walk.placeOf(s, t);
                }
            }
        }
        return -1;
    }

    private int compareWorths(int i, int j, int k, int l) {
        matchWorth(i, j, ratio);
        matchWorth(k, l, other);
        return ratio.compareWith(other.part(0), other.part(1));
    }

    private boolean withstands(int j, int i) {
        int amongJ = compareWorths(j, j, i, j);
        return amongJ > 0 || amongJ == 0 && compareWorths(j, i, i, i) > 0;
    }

    private int gainsAgainstAll(int i, int n) {
        int all = 0;
        for (int j = 0; j < machines.many(); j++) {
            all += gainsOf(i, j, n);
        }
        return all;
    }

    /** How many machines stand ahead of one by the scores as they have been taken. */
    private int machinesAheadOf(int m) {
        int ahead = 0;
        for (int i = 0; i < machines.many(); i++) {
            if (scores[i] > scores[m] || scores[i] == scores[m] && i < m) {
                ahead++;
            }
        }
        return ahead;
    }

    private int restingPairs() {
        for (int m = 0; m < machines.many(); m++) {
            plans.learn(game, machines, m, 0);
        }
        int pairs = 0;
        for (int i = 0; i < machines.many(); i++) {
            for (int j = i; j < machines.many(); j++) {
                takeBothSides(i, j);
                if (restFrom(i, 0, j, 0)) {
                    pairs++;
                }
            }
        }
        return pairs;
    }

    /** What each action brings against each, and how later rounds are discounted. */
    private static final class Game {
        static final int ACTIONS = 3;

        private final int[] gains = new int[ACTIONS * ACTIONS];
        private long over = 1;
        private long under = 2;

        void setGain(int mine, int theirs, int v) {
            gains[ACTIONS * mine + theirs] = v;
        }

        int gain(int mine, int theirs) {
            return gains[ACTIONS * mine + theirs];
        }

        void setRate(int p, int q) {
            over = p;
            under = q;
        }

        long rateOver() {
            return over;
        }

        long rateUnder() {
            return under;
        }
    }

    /** The machines, the latest one last. */
    private static final class Machines {
        static final int MOST = 12;
        static final int MOST_STATES = 4;

        private final int[] sizes = new int[MOST];
        private final int[] actions = new int[MOST * MOST_STATES];
        private final int[] nexts = new int[MOST * MOST_STATES * Game.ACTIONS];
        private int many = 0;

        int many() {
            return many;
        }

        boolean isFull() {
            return many >= MOST;
        }

        boolean has(int m) {
            return m >= 0 && m < many;
        }

        boolean hasState(int m, int s) {
            return has(m) && s >= 0 && s < sizes[m];
        }

        int statesOf(int m) {
            return sizes[m];
        }

        /** Asks that there is room for one more. */
        int add(int n) {
            int m = many;
            many++;
            sizes[m] = n;
            for (int s = 0; s < n; s++) {
                setAction(m, s, 0);
                for (int a = 0; a < Game.ACTIONS; a++) {
                    setNext(m, s, a, s);
                }
            }
            return m;
        }

        /** Asks that there is one. */
        int removeLatest() {
            many--;
            return many;
        }

        void setAction(int m, int s, int a) {
            actions[MOST_STATES * m + s] = a;
        }

        int actionOf(int m, int s) {
            return actions[MOST_STATES * m + s];
        }

        void setNext(int m, int s, int a, int next) {
            nexts[(MOST_STATES * m + s) * Game.ACTIONS + a] = next;
        }

        int nextOf(int m, int s, int a) {
            return nexts[(MOST_STATES * m + s) * Game.ACTIONS + a];
        }
    }

    /** The sheets: cells held as ints, cut to what their lane holds as they are laid. */
    private static final class Sheets {
        static final int MOST_CELLS = 60;

        private static final int MOST = 4;
        private static final int NO_LANE = -1;
        private static final int BYTES = 0;
        private static final int SHORTS = 1;
        private static final int INTS = 2;

        private final int[] lanes = new int[MOST];
        private final int[] sizes = new int[MOST];
        private final int[] cells = new int[MOST * MOST_CELLS];

        Sheets() {
            Arrays.fill(lanes, NO_LANE);
        }

        static boolean isSheet(int k) {
            return k >= 0 && k < MOST;
        }

        static boolean isLane(int lane) {
            return lane >= BYTES && lane <= INTS;
        }

        boolean isThere(int k) {
            return lanes[k] != NO_LANE;
        }

        int laneOf(int k) {
            return lanes[k];
        }

        int cellsOf(int k) {
            return sizes[k];
        }

        void layOut(int k, int lane, int n) {
            lanes[k] = lane;
            sizes[k] = n;
            Arrays.fill(cells, k * MOST_CELLS, k * MOST_CELLS + n, 0);
        }

        boolean hasCell(int k, int i) {
            return i >= 0 && i < sizes[k];
        }

        int cell(int k, int i) {
            return cells[k * MOST_CELLS + i];
        }

        void setCell(int k, int i, int v) {
            cells[k * MOST_CELLS + i] = lowestBits(lanes[k], v);
        }

        private static int lowestBits(int lane, int v) {
            if (lane == BYTES) {
                return (byte) v;
            }
            return lane == SHORTS ? (short) v : v;
        }
    }

    /** A ratio in lowest terms, its bottom above 0. */
    private static final class Ratio {
        // Euclid's steps on two longs stay below this.
        private static final int MOST_STEPS = 100;

        private long top = 0;
        private long bottom = 1;

        /** Asks that the bottom is above 0. */
        void become(long newTop, long newBottom) {
            long shared = greatestShared(Math.abs(newTop), newBottom);
            top = newTop / shared;
            bottom = newBottom / shared;
        }

        long part(int what) {
            return what == 0 ? top : bottom;
        }

        /**
         * Two worths are compared only where one comes of at most 4 pairs of states (a plan, or a machine
         * against itself): its parts stay below 2^17, those of the other one below 2^41, so no product overflows.
         */
        int compareWith(long otherTop, long otherBottom) {
            return Long.compare(top * otherBottom, otherTop * bottom);
        }

        /** Never 0, as b is above 0. */
        private static long greatestShared(long a, long b) {
            long greater = b;
            long less = a;
            for (int step = 0; step < MOST_STEPS && less != 0; step++) {
                long left = greater % less;
                greater = less;
                less = left;
            }
            return greater;
        }
    }

    /** A way from place to place that ends in a ring; a place is a pair of states, or a state that a plan faces. */
    private static final class Walk {
        static final int PLACES = Machines.MOST_STATES * Machines.MOST_STATES;

        private static final int SIDE = Machines.MOST_STATES;
        private static final int MOST_TOGETHER = PLACES * PLACES;

        private final int[] nexts = new int[PLACES];
        private final int[] gains = new int[PLACES];
        private final int[] firstMet = new int[PLACES];
        private final int[] path = new int[PLACES];
        private int tail = 0;
        private int ring = 1;

        static int placeOf(int mine, int theirs) {
            return SIDE * mine + theirs;
        }

        static int mine(int place) {
            return place / SIDE;
        }

        static int theirs(int place) {
            return place % SIDE;
        }

        /** The places are the pairs of states, the gains are those of i. */
        void takeMatch(Game game, Machines machines, int i, int j) {
            for (int s = 0; s < machines.statesOf(i); s++) {
                int a = machines.actionOf(i, s);
                for (int t = 0; t < machines.statesOf(j); t++) {
                    int b = machines.actionOf(j, t);
                    nexts[placeOf(s, t)] = placeOf(machines.nextOf(i, s, b), machines.nextOf(j, t, a));
                    gains[placeOf(s, t)] = game.gain(a, b);
                }
            }
        }

        /** The places are the states of m, the gains are those of the plan's side. */
        void takePlan(Game game, Machines machines, int m, int plan) {
            int digits = plan;
            for (int s = 0; s < machines.statesOf(m); s++) {
                int a = digits % Game.ACTIONS;
                digits /= Game.ACTIONS;
                nexts[s] = machines.nextOf(m, s, a);
                gains[s] = game.gain(a, machines.actionOf(m, s));
            }
        }

        void startAt(int place) {
            Arrays.fill(firstMet, -1);
            int at = place;
            int round = 0;
            while (round < PLACES && firstMet[at] < 0) {
                firstMet[at] = round;
                path[round] = at;
                at = nexts[at];
                round++;
            }
            // Of as many rounds as there are places one comes again: the ring is never 0.
            tail = firstMet[at];
            ring = round - tail;
        }

        int tail() {
            return tail;
        }

        int ring() {
            return ring;
        }

        int placeIn(int round) {
            return path[round < tail ? round : tail + (round - tail) % ring];
        }

        int tailGains() {
            return gainsAlong(0, tail);
        }

        int ringGains() {
            return gainsAlong(tail, ring);
        }

        int gainsOfFirst(int rounds) {
            if (rounds <= tail) {
                return gainsAlong(0, rounds);
            }
            int inRing = rounds - tail;
            return tailGains() + inRing / ring * ringGains() + gainsAlong(tail, inRing % ring);
        }

        private int gainsAlong(int from, int rounds) {
            int all = 0;
            for (int round = from; round < from + rounds; round++) {
                all += gains[path[round]];
            }
            return all;
        }

        /**
         * The worth of the tail, and (p by q)^tail times that of the ring, which is the worth of going round once
         * by 1 - (p by q)^ring; all over q^tail (q^ring - p^ring), which is at most 4^16.
         */
        void worthInto(Game game, Ratio result) {
            long p = game.rateOver();
            long q = game.rateUnder();
            long ringUnder = power(q, ring) - power(p, ring);
            long top = weighedAlong(0, tail, p, q) * ringUnder
                    + power(p, tail) * weighedAlong(tail, ring, p, q);
            result.become(q * top, power(q, tail) * ringUnder);
        }

        /** The discounted gains times q to the (rounds - 1), so that they are whole. */
        private long weighedAlong(int from, int rounds, long p, long q) {
            long all = 0;
            long weight = 1;
            for (int round = from; round < from + rounds; round++) {
                all = all * q + gains[path[round]] * weight;
                weight *= p;
            }
            return all;
        }

        private static long power(long base, int exponent) {
            long product = 1;
            for (int i = 0; i < exponent; i++) {
                product *= base;
            }
            return product;
        }

        /** How many rounds two go on until both are at one place, or -1; two come to no more pairs of places. */
        int meeting(int one, int two) {
            int first = one;
            int second = two;
            for (int round = 0; round <= MOST_TOGETHER; round++) {
                if (first == second) {
                    return round;
                }
                first = nexts[first];
                second = nexts[second];
            }
            return -1;
        }
    }

    /** Who does the same against whatever is done. */
    private static final class Likeness {
        private final int[] pairs = new int[Walk.PLACES];

        boolean areLike(Machines machines, int i, int j) {
            return statesLike(machines, i, 0, j, 0);
        }

        int unlikeMachines(Machines machines) {
            int unlike = 0;
            for (int m = 0; m < machines.many(); m++) {
                if (isNew(machines, m)) {
                    unlike++;
                }
            }
            return unlike;
        }

        private boolean isNew(Machines machines, int m) {
            for (int i = 0; i < m; i++) {
                if (areLike(machines, i, m)) {
                    return false;
                }
            }
            return true;
        }

        /** How many of the states that m can come to are unlike: so many has the smallest that is like m. */
        int unlikeStates(Machines machines, int m) {
            int reached = reachedStates(machines, m);
            int unlike = 0;
            for (int s = 0; s < machines.statesOf(m); s++) {
                if (holds(reached, s) && isNewState(machines, m, s, reached)) {
                    unlike++;
                }
            }
            return unlike;
        }

        private boolean isNewState(Machines machines, int m, int s, int reached) {
            for (int t = 0; t < s; t++) {
                if (holds(reached, t) && statesLike(machines, m, s, m, t)) {
                    return false;
                }
            }
            return true;
        }

        private static boolean holds(int set, int number) {
            return (set >> number & 1) == 1;
        }

        private static int reachedStates(Machines machines, int m) {
            int reached = 1;
            for (int pass = 0; pass < Machines.MOST_STATES; pass++) {
                for (int s = 0; s < machines.statesOf(m); s++) {
                    for (int a = 0; a < Game.ACTIONS && holds(reached, s); a++) {
                        reached |= 1 << machines.nextOf(m, s, a);
                    }
                }
            }
            return reached;
        }

        /** Looks at each pair of states that the same doings can bring both to. */
        private boolean statesLike(Machines machines, int i, int s, int j, int t) {
            pairs[0] = Walk.placeOf(s, t);
            int met = 1 << pairs[0];
            int many = 1;
            for (int k = 0; k < Walk.PLACES && k < many; k++) {
                int mine = Walk.mine(pairs[k]);
                int theirs = Walk.theirs(pairs[k]);
                if (machines.actionOf(i, mine) != machines.actionOf(j, theirs)) {
                    return false;
                }
                for (int a = 0; a < Game.ACTIONS; a++) {
                    int next = Walk.placeOf(machines.nextOf(i, mine, a), machines.nextOf(j, theirs, a));
                    if (!holds(met, next)) {
                        met |= 1 << next;
                        pairs[many] = next;
                        many++;
                    }
                }
            }
            return true;
        }
    }

    /** The best plans; a call learns the ones that it asks for anew, as all may have changed since. */
    private static final class Plans {
        private static final int SLOTS = Machines.MOST * Machines.MOST_STATES;

        private final int[] plans = new int[SLOTS];
        private final long[] tops = new long[SLOTS];
        private final long[] bottoms = new long[SLOTS];
        private final Walk walk = new Walk();
        private final Ratio tried = new Ratio();

        static int plansAgainst(int states) {
            int all = 1;
            for (int s = 0; s < states; s++) {
                all *= Game.ACTIONS;
            }
            return all;
        }

        private static int slotOf(int m, int s) {
            return m * Machines.MOST_STATES + s;
        }

        void weigh(Game game, Machines machines, int m, int s, int plan, Ratio result) {
            walk.takePlan(game, machines, m, plan);
            walk.startAt(s);
            walk.worthInto(game, result);
        }

        void learn(Game game, Machines machines, int m, int s) {
            weigh(game, machines, m, s, 0, tried);
            keep(slotOf(m, s), 0);
            for (int plan = 1; plan < plansAgainst(machines.statesOf(m)); plan++) {
                weigh(game, machines, m, s, plan, tried);
                if (bestCompared(m, s, tried) < 0) {
                    keep(slotOf(m, s), plan);
                }
            }
        }

        private void keep(int slot, int plan) {
            plans[slot] = plan;
            tops[slot] = tried.part(0);
            bottoms[slot] = tried.part(1);
        }

        void learnAll(Game game, Machines machines, int m) {
            for (int s = 0; s < machines.statesOf(m); s++) {
                learn(game, machines, m, s);
            }
        }

        int bestPlan(int m, int s) {
            return plans[slotOf(m, s)];
        }

        long bestPart(int m, int s, int what) {
            return what == 0 ? tops[slotOf(m, s)] : bottoms[slotOf(m, s)];
        }

        /** Above 0 if the best plan is worth more than the ratio, below 0 if less. */
        int bestCompared(int m, int s, Ratio worth) {
            return -worth.compareWith(tops[slotOf(m, s)], bottoms[slotOf(m, s)]);
        }
    }
}
