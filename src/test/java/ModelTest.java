/** Long runs of calls on the program and on the model, all promises mixed: each answer must be the same. */
public final class ModelTest {
    private static final int RUNS = 150;
    // Some steps make two calls, and nothing is promised behind the 512th.
    private static final int STEPS = 450;
    private static final int KINDS = 28;
    private static final int[] EXTREMES = {-1, Integer.MIN_VALUE, Integer.MAX_VALUE, -2, 12, 1001, 101, 61, 81};

    private long seed;
    private final Due due = new Due();

    private ModelTest(long seed) {
        this.seed = seed;
    }

    public static void main(String[] args) {
        ModelTest test = new ModelTest(20261119L);
        for (int run = 0; run < RUNS && !test.due.anyWrong(); run++) {
            test.run(run);
        }
        test.due.end();
    }

    /** Always the same numbers, so that a run that fails can be run again. */
    private int chance(int many) {
        seed = seed * 6364136223846793005L + 1442695040888963407L;
        return (int) ((seed >>> 33) % many);
    }

    /** A number from least to most, now and then another one. */
    private int number(int least, int most) {
        int dice = chance(60);
        if (dice == 0) {
            return EXTREMES[chance(EXTREMES.length)];
        }
        if (dice == 1) {
            return most + 1;
        }
        return least + chance(most - least + 1);
    }

    private int machineNumber(Model model) {
        return number(0, Math.max(0, model.count(0) - 1));
    }

    private int stateOf(Model model, int m) {
        int states = 0;
        while (states < 4 && model.told(m, states, 0) >= 0) {
            states++;
        }
        return number(0, Math.max(0, states - 1));
    }

    private void run(int run) {
        AgainAgain x = new AgainAgain();
        Model model = new Model();
        int payScale = new int[] {1, 2, 5, 50}[run % 4];
        int building = new int[] {30, 60, 120}[run % 3];
        for (int step = 0; step < STEPS && !due.anyWrong(); step++) {
            boolean build = step < building || chance(4) == 0;
            int kind = build ? chance(10) : chance(KINDS);
            one("run " + run + ", step " + step + ": ", kind, payScale, x, model);
        }
    }

    private void one(String where, int kind, int payScale, AgainAgain x, Model model) {
        if (kind < 10) {
            change(where, kind, payScale, x, model);
        } else if (kind < 18) {
            askMatches(where, kind, x, model);
        } else {
            askPlans(where, kind, x, model);
        }
    }

    private void change(String where, int kind, int payScale, AgainAgain x, Model model) {
        int m = machineNumber(model);
        int s = stateOf(model, m);
        int a = number(0, 2);
        int k = number(0, 3);
        switch (kind) {
            case 0 -> {
                int b = number(0, 2);
                int v = number(-payScale, payScale);
                due.is(where + "pay(" + a + ", " + b + ", " + v + ")", x.pay(a, b, v), model.pay(a, b, v));
            }
            case 1 -> {
                int q = number(2, 4);
                int p = number(1, Math.max(1, q == Integer.MAX_VALUE ? 3 : q - 1));
                due.is(where + "discount(" + p + ", " + q + ")", x.discount(p, q), model.discount(p, q));
            }
            case 2 -> {
                int n = number(1, 4);
                due.is(where + "machine(" + n + ")", x.machine(n), model.machine(n));
            }
            case 3, 4 ->
                due.is(where + "does(" + m + ", " + s + ", " + a + ")", x.does(m, s, a), model.does(m, s, a));
            case 5, 6, 7 -> {
                int next = stateOf(model, m);
                due.is(where + "goes(" + m + ", " + s + ", " + a + ", " + next + ")", x.goes(m, s, a, next),
                    model.goes(m, s, a, next));
            }
            case 8 -> {
                if (chance(6) == 0) {
                    due.is(where + "drop()", x.drop(), model.drop());
                } else {
                    changeSheet(where, k, x, model);
                }
            }
            default -> {
                int lane = number(0, 2);
                int f = number(0, 20);
                int n = number(1, 4);
                due.is(where + "draw(" + k + ", " + lane + ", " + f + ", " + n + ")", x.draw(k, lane, f, n),
                    model.draw(k, lane, f, n));
            }
        }
    }

    private void changeSheet(String where, int k, AgainAgain x, Model model) {
        if (chance(3) == 0) {
            int lane = number(0, 2);
            int n = number(-2, 60);
            due.is(where + "sheet(" + k + ", " + lane + ", " + n + ")", x.sheet(k, lane, n),
                model.sheet(k, lane, n));
        } else {
            int i = number(0, 40);
            int v = number(0, 3) + (chance(4) == 0 ? 256 : 0) + (chance(8) == 0 ? 65536 : 0);
            due.is(where + "lay(" + k + ", " + i + ", " + v + ")", x.lay(k, i, v), model.lay(k, i, v));
        }
    }

    private void askMatches(String where, int kind, AgainAgain x, Model model) {
        int i = machineNumber(model);
        int j = machineNumber(model);
        int r = number(0, chance(2) == 0 ? 20 : 1000);
        String of = "(" + i + ", " + j + ", ";
        switch (kind) {
            case 10 -> {
                int s = stateOf(model, i);
                int what = number(0, 3);
                due.is(where + "told(" + i + ", " + s + ", " + what + ")", x.told(i, s, what),
                    model.told(i, s, what));
            }
            case 11 -> due.is(where + "action" + of + r + ")", x.action(i, j, r), model.action(i, j, r));
            case 12 -> {
                int what = number(0, 3);
                due.is(where + "match" + of + what + ")", x.match(i, j, what), model.match(i, j, what));
            }
            case 13 -> due.is(where + "sum" + of + r + ")", x.sum(i, j, r), model.sum(i, j, r));
            case 14 -> {
                int what = number(0, 1);
                due.is(where + "mean" + of + what + ")", x.mean(i, j, what), model.mean(i, j, what));
            }
            case 15 -> {
                int what = number(0, 1);
                due.is(where + "worth" + of + what + ")", x.worth(i, j, what), model.worth(i, j, what));
            }
            case 16 -> {
                int round = number(0, 100);
                due.is(where + "slip" + of + round + ")", x.slip(i, j, round), model.slip(i, j, round));
            }
            default -> {
                due.is(where + "like" + of + ")", x.like(i, j), model.like(i, j));
                due.is(where + "smallest(" + i + ")", x.smallest(i), model.smallest(i));
            }
        }
    }

    private void askPlans(String where, int kind, AgainAgain x, Model model) {
        int i = machineNumber(model);
        int j = machineNumber(model);
        int s = stateOf(model, i);
        int what = number(0, 1);
        int n = number(0, 1000);
        String of = "(" + i + ", " + j + ")";
        switch (kind) {
            case 18 -> due.is(where + "best(" + i + ", " + s + ")", x.best(i, s), model.best(i, s));
            case 19 -> due.is(where + "bestWorth(" + i + ", " + s + ", " + what + ")", x.bestWorth(i, s, what),
                model.bestWorth(i, s, what));
            case 20 -> {
                int plan = number(0, chance(2) == 0 ? 8 : 80);
                due.is(where + "planWorth(" + i + ", " + s + ", " + plan + ", " + what + ")",
                    x.planWorth(i, s, plan, what), model.planWorth(i, s, plan, what));
            }
            case 21 -> due.is(where + "rest" + of, x.rest(i, j), model.rest(i, j));
            case 22 -> due.is(where + "everywhere" + of, x.everywhere(i, j), model.everywhere(i, j));
            case 23 -> {
                int told = number(0, 2);
                due.is(where + "deviation" + of + " " + told, x.deviation(i, j, told), model.deviation(i, j, told));
            }
            case 24 -> due.is(where + "resists" + of, x.resists(i, j), model.resists(i, j));
            case 25 -> due.is(where + "invaders(" + i + ")", x.invaders(i), model.invaders(i));
            case 26 -> {
                due.is(where + "score(" + i + ", " + n + ")", x.score(i, n), model.score(i, n));
                int p = number(0, 11);
                due.is(where + "place(" + p + ", " + n + ")", x.place(p, n), model.place(p, n));
            }
            default -> {
                int of4 = number(0, 3);
                due.is(where + "count(" + of4 + ")", x.count(of4), model.count(of4));
            }
        }
    }
}
