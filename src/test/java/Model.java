import java.util.ArrayList;
import java.util.Comparator;
import java.util.HashMap;
import java.util.HashSet;
import java.util.List;
import java.util.Map;
import java.util.Set;
import java.util.stream.IntStream;

/**
 * The document once more, written in another way than the program: rounds are played one by one, fractions have
 * any size, likeness is asked of every word, and the faults of sheets are those that Java's own rows throw.
 */
final class Model {
    private static final int BAD_SUM = -1000000;
    private static final long BAD_PART = -1000000000000000L;

    private final int[][] pays = new int[3][3];
    private Fraction rate = Fraction.of(1, 2);
    private final List<int[][]> machines = new ArrayList<>();
    private final Object[] sheets = new Object[4];

    private record Pair(int s, int t) {
    }

    private boolean none(int... all) {
        for (int m : all) {
            if (m < 0 || m >= machines.size()) {
                return true;
            }
        }
        return false;
    }

    private boolean noState(int m, int s) {
        return none(m) || s < 0 || s >= machines.get(m).length;
    }

    private static boolean out(int v, int most) {
        return v < 0 || v > most;
    }

    int pay(int a, int b, int v) {
        if (out(a, 2) || out(b, 2) || Math.abs((long) v) > 50) {
            return -1;
        }
        pays[a][b] = v;
        return 1;
    }

    int discount(int p, int q) {
        if (q < 2 || q > 4 || p < 1 || p >= q) {
            return -1;
        }
        rate = Fraction.of(p, q);
        return 1;
    }

    int machine(int n) {
        if (n < 1 || n > 4) {
            return -1;
        }
        if (machines.size() == 12) {
            return -3;
        }
        int[][] rows = new int[n][];
        for (int s = 0; s < n; s++) {
            rows[s] = new int[] {0, s, s, s};
        }
        machines.add(rows);
        return machines.size() - 1;
    }

    int does(int m, int s, int action) {
        if (noState(m, s) || out(action, 2)) {
            return -1;
        }
        machines.get(m)[s][0] = action;
        return 1;
    }

    int goes(int m, int s, int a, int next) {
        if (noState(m, s) || out(a, 2) || noState(m, next)) {
            return -1;
        }
        machines.get(m)[s][1 + a] = next;
        return 1;
    }

    int told(int m, int s, int what) {
        return noState(m, s) || out(what, 3) ? -1 : machines.get(m)[s][what];
    }

    int drop() {
        if (machines.isEmpty()) {
            return -4;
        }
        machines.remove(machines.size() - 1);
        return machines.size();
    }

    int sheet(int k, int lane, int n) {
        if (out(k, 3) || out(lane, 2) || n > 60) {
            return -1;
        }
        try {
            sheets[k] = lane == 0 ? new byte[n] : lane == 1 ? new short[n] : new int[n];
            return 1;
        } catch (NegativeArraySizeException e) {
            return -14;
        }
    }

    int lay(int k, int i, int v) {
        if (out(k, 3)) {
            return -1;
        }
        try {
            if (sheets[k] instanceof byte[] row) {
                row[i] = (byte) v;
            } else if (sheets[k] instanceof short[] row) {
                row[i] = (short) v;
            } else {
                ((int[]) sheets[k])[i] = v;
            }
            return 1;
        } catch (NullPointerException e) {
            return -11;
        } catch (ArrayIndexOutOfBoundsException e) {
            return -12;
        }
    }

    private int cell(int k, int lane, int i) {
        return lane == 0 ? ((byte[]) sheets[k])[i] : lane == 1 ? ((short[]) sheets[k])[i] : ((int[]) sheets[k])[i];
    }

    int draw(int k, int lane, int f, int n) {
        if (out(k, 3) || out(lane, 2) || n < 1 || n > 4) {
            return -1;
        }
        int[][] rows = new int[n][4];
        try {
            for (int i = 0; i < 4 * n; i++) {
                int v = cell(k, lane, f + i);
                if (out(v, i % 4 == 0 ? 2 : n - 1)) {
                    return -20 - i;
                }
                rows[i / 4][i % 4] = v;
            }
        } catch (NullPointerException e) {
            return -11;
        } catch (ArrayIndexOutOfBoundsException e) {
            return -12;
        } catch (ClassCastException e) {
            return -13;
        }
        if (machines.size() == 12) {
            return -3;
        }
        machines.add(rows);
        return machines.size() - 1;
    }

    private int act(int m, int s) {
        return machines.get(m)[s][0];
    }

    private Pair after(int i, int j, Pair at) {
        return new Pair(machines.get(i)[at.s][1 + act(j, at.t)], machines.get(j)[at.t][1 + act(i, at.s)]);
    }

    /** The pairs of states of rounds 0 up to (but without) many. */
    private List<Pair> rounds(int i, int j, Pair from, int many) {
        List<Pair> all = new ArrayList<>();
        Pair at = from;
        for (int r = 0; r < many; r++) {
            all.add(at);
            at = after(i, j, at);
        }
        return all;
    }

    private int gain(int i, int j, Pair at) {
        return pays[act(i, at.s)][act(j, at.t)];
    }

    private int gains(int i, int j, List<Pair> all) {
        return all.stream().mapToInt(at -> gain(i, j, at)).sum();
    }

    int action(int i, int j, int r) {
        if (none(i, j) || out(r, 1000)) {
            return -1;
        }
        return act(i, rounds(i, j, new Pair(0, 0), r + 1).get(r).s);
    }

    /** {tail, tail + ring}. */
    private int[] tailAndEnd(List<Pair> all) {
        for (int r = 1; r < all.size(); r++) {
            int first = all.indexOf(all.get(r));
            if (first < r) {
                return new int[] {first, r};
            }
        }
        throw new IllegalStateException("no ring");
    }

    int match(int i, int j, int what) {
        if (none(i, j) || out(what, 3)) {
            return BAD_SUM;
        }
        List<Pair> all = rounds(i, j, new Pair(0, 0), 20);
        int[] ends = tailAndEnd(all);
        int[] told = {ends[0], ends[1] - ends[0], gains(i, j, all.subList(0, ends[0])),
            gains(i, j, all.subList(ends[0], ends[1]))};
        return told[what];
    }

    int sum(int i, int j, int n) {
        if (none(i, j) || out(n, 1000)) {
            return BAD_SUM;
        }
        return gains(i, j, rounds(i, j, new Pair(0, 0), n));
    }

    long mean(int i, int j, int what) {
        if (none(i, j) || out(what, 1)) {
            return BAD_PART;
        }
        return Fraction.of(match(i, j, 3), match(i, j, 1)).part(what);
    }

    /** 16 rounds one by one (by then any way is in its ring), then once round the ring. */
    private Fraction worthOf(int[] nexts, int[] gains, int from) {
        Fraction all = Fraction.of(0, 1);
        Fraction weight = Fraction.of(1, 1);
        int at = from;
        for (int r = 0; r < 16; r++) {
            all = all.plus(weight.times(Fraction.of(gains[at], 1)));
            weight = weight.times(rate);
            at = nexts[at];
        }
        Fraction ring = Fraction.of(0, 1);
        Fraction inRing = Fraction.of(1, 1);
        int start = at;
        do {
            ring = ring.plus(inRing.times(Fraction.of(gains[at], 1)));
            inRing = inRing.times(rate);
            at = nexts[at];
        } while (at != start);
        Fraction left = Fraction.of(1, 1).plus(inRing.times(Fraction.of(-1, 1)));
        return all.plus(weight.times(ring).by(left));
    }

    private Fraction matchWorth(int i, int s, int j, int t) {
        List<Pair> all = rounds(i, j, new Pair(s, t), 40);
        int[] nexts = new int[16];
        int[] gains = new int[16];
        for (Pair at : all) {
            Pair next = after(i, j, at);
            nexts[4 * at.s + at.t] = 4 * next.s + next.t;
            gains[4 * at.s + at.t] = gain(i, j, at);
        }
        return worthOf(nexts, gains, 4 * s + t);
    }

    private Fraction matchWorth(int i, int j) {
        return matchWorth(i, 0, j, 0);
    }

    long worth(int i, int j, int what) {
        return none(i, j) || out(what, 1) ? BAD_PART : matchWorth(i, j).part(what);
    }

    int slip(int i, int j, int r) {
        if (none(i, j) || out(r, 100)) {
            return -1;
        }
        List<Pair> straight = rounds(i, j, new Pair(0, 0), r + 700);
        Pair at = straight.get(r);
        int done = (act(i, at.s) + 1) % 3;
        Pair next = new Pair(machines.get(i)[at.s][1 + act(j, at.t)], machines.get(j)[at.t][1 + done]);
        List<Pair> slipped = rounds(i, j, next, 600);
        for (int k = 1; k <= 600; k++) {
            if (slipped.get(k - 1).equals(straight.get(r + k))) {
                return k;
            }
        }
        return -4;
    }

    /** What a state does at each word of others' actions up to a length. */
    private void doings(int[][] machine, int s, int length, StringBuilder told) {
        told.append(machine[s][0]);
        for (int a = 0; a < 3 && length > 0; a++) {
            doings(machine, machine[s][1 + a], length - 1, told);
        }
    }

    private String doings(int[][] machine, int s, int length) {
        StringBuilder told = new StringBuilder();
        doings(machine, s, length, told);
        return told.toString();
    }

    int like(int i, int j) {
        if (none(i, j)) {
            return -1;
        }
        return doings(machines.get(i), 0, 7).equals(doings(machines.get(j), 0, 7)) ? 1 : 0;
    }

    private void reach(int[][] machine, int s, Set<Integer> reached) {
        if (reached.add(s)) {
            for (int a = 0; a < 3; a++) {
                reach(machine, machine[s][1 + a], reached);
            }
        }
    }

    int smallest(int m) {
        if (none(m)) {
            return -1;
        }
        Set<Integer> reached = new HashSet<>();
        reach(machines.get(m), 0, reached);
        Set<String> unlike = new HashSet<>();
        for (int s : reached) {
            unlike.add(doings(machines.get(m), s, 4));
        }
        return unlike.size();
    }

    private int plans(int m) {
        return (int) Math.pow(3, machines.get(m).length);
    }

    private Fraction planWorth(int m, int s, int plan) {
        int n = machines.get(m).length;
        int[] nexts = new int[n];
        int[] gains = new int[n];
        for (int t = 0; t < n; t++) {
            int a = plan / (int) Math.pow(3, t) % 3;
            nexts[t] = machines.get(m)[t][1 + a];
            gains[t] = pays[a][act(m, t)];
        }
        return worthOf(nexts, gains, s);
    }

    private record Best(int plan, Fraction worth) {
    }

    private Best bestOf(int m, int s) {
        return IntStream.range(0, plans(m)).mapToObj(plan -> new Best(plan, planWorth(m, s, plan)))
            .max(Comparator.comparing(Best::worth).thenComparing(Best::plan, Comparator.reverseOrder())).get();
    }

    int best(int m, int s) {
        return noState(m, s) ? -1 : bestOf(m, s).plan;
    }

    long bestWorth(int m, int s, int what) {
        return noState(m, s) || out(what, 1) ? BAD_PART : bestOf(m, s).worth.part(what);
    }

    long planWorth(int m, int s, int plan, int what) {
        if (noState(m, s) || out(what, 1) || out(plan, plans(m) - 1)) {
            return BAD_PART;
        }
        return planWorth(m, s, plan).part(what);
    }

    int rest(int i, int j) {
        if (none(i, j)) {
            return -1;
        }
        return rests(i, j, bestOf(i, 0), bestOf(j, 0)) ? 1 : 0;
    }

    private boolean rests(int i, int j, Best againstI, Best againstJ) {
        return matchWorth(i, j).equals(againstJ.worth) && matchWorth(j, i).equals(againstI.worth);
    }

    int everywhere(int i, int j) {
        if (none(i, j)) {
            return -1;
        }
        return deviation(i, j, 0) == -4 ? 1 : 0;
    }

    int deviation(int i, int j, int what) {
        if (none(i, j) || out(what, 2)) {
            return -1;
        }
        Map<Integer, Best> againstI = new HashMap<>();
        for (int pair = 0; pair < 16; pair++) {
            int s = pair / 4;
            int t = pair % 4;
            if (noState(i, s) || noState(j, t)) {
                continue;
            }
            Best mine = bestOf(j, t);
            if (mine.worth.compareTo(matchWorth(i, s, j, t)) > 0) {
                return new int[] {pair, 0, mine.plan}[what];
            }
            Best theirs = againstI.computeIfAbsent(s, state -> bestOf(i, state));
            if (theirs.worth.compareTo(matchWorth(j, t, i, s)) > 0) {
                return new int[] {pair, 1, theirs.plan}[what];
            }
        }
        return -4;
    }

    int resists(int j, int i) {
        if (none(i, j) || i == j) {
            return -1;
        }
        int first = matchWorth(j, j).compareTo(matchWorth(i, j));
        int second = matchWorth(j, i).compareTo(matchWorth(i, i));
        return first > 0 || first == 0 && second > 0 ? 1 : 0;
    }

    int invaders(int j) {
        if (none(j)) {
            return -1;
        }
        return IntStream.range(0, machines.size()).filter(i -> resists(j, i) == 0).map(i -> (int) Math.pow(2, i))
            .sum();
    }

    int score(int i, int n) {
        if (none(i) || out(n, 1000)) {
            return BAD_SUM;
        }
        return IntStream.range(0, machines.size()).map(j -> sum(i, j, n)).sum();
    }

    int place(int p, int n) {
        if (p < 0 || out(n, 1000)) {
            return -1;
        }
        if (p >= machines.size()) {
            return -4;
        }
        Map<Integer, Integer> scores = new HashMap<>();
        List<Integer> order = new ArrayList<>();
        for (int m = 0; m < machines.size(); m++) {
            scores.put(m, score(m, n));
            order.add(m);
        }
        order.sort(Comparator.<Integer, Integer>comparing(scores::get).reversed());
        return order.get(p);
    }

    private int restingPairs() {
        List<Best> bests = new ArrayList<>();
        int pairs = 0;
        for (int j = 0; j < machines.size(); j++) {
            bests.add(bestOf(j, 0));
            for (int i = 0; i <= j; i++) {
                pairs += rests(i, j, bests.get(i), bests.get(j)) ? 1 : 0;
            }
        }
        return pairs;
    }

    int count(int what) {
        switch (what) {
            case 0:
                return machines.size();
            case 1:
                return (int) machines.stream().map(rows -> doings(rows, 0, 7)).distinct().count();
            case 2:
                return restingPairs();
            case 3:
                return sheets[0] == null ? -4 : java.lang.reflect.Array.getLength(sheets[0]);
            default:
                return -1;
        }
    }
}
