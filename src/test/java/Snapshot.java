import java.util.ArrayList;
import java.util.List;

/** All that can be told of an object, so that two can be compared. The object is used up by it. */
final class Snapshot {
    private Snapshot() {
    }

    /** Takes some 400 calls at most, if no sheet has more than some 20 cells. */
    static List<Long> of(AgainAgain x) {
        List<Long> all = new ArrayList<>();
        machines(x, all);
        game(x, all);
        for (int k = 0; k < 4; k++) {
            sheet(x, k, all);
        }
        return all;
    }

    private static void dropAll(AgainAgain x) {
        int many = x.count(0);
        for (int m = 0; m < many; m++) {
            x.drop();
        }
    }

    private static void machines(AgainAgain x, List<Long> all) {
        int many = x.count(0);
        all.add((long) many);
        for (int m = 0; m < many; m++) {
            for (int s = 0; s < 4 && x.told(m, s, 0) >= 0; s++) {
                for (int what = 0; what < 4; what++) {
                    all.add((long) x.told(m, s, what));
                }
            }
            all.add(-1L);
        }
        dropAll(x);
    }

    private static void game(AgainAgain x, List<Long> all) {
        for (int a = 0; a < 3; a++) {
            Fixtures.steady(x, a);
        }
        for (int a = 0; a < 3; a++) {
            for (int b = 0; b < 3; b++) {
                all.add((long) x.sum(a, b, 1));
            }
        }
        x.pay(0, 0, 1);
        all.add(x.worth(0, 0, 0));
        all.add(x.worth(0, 0, 1));
        dropAll(x);
    }

    /** A cell can be seen by drawing it; it is laid over behind that, as only a cell that is there can be laid. */
    private static void sheet(AgainAgain x, int k, List<Long> all) {
        int lane = 0;
        while (lane < 2 && x.draw(k, lane, 0, 1) == -13) {
            lane++;
        }
        all.add((long) lane);
        dropAll(x);
        int laid = 1;
        for (int f = 0; f <= 60 && laid == 1; f++) {
            int drawn = x.draw(k, lane, f, 1);
            all.add((long) drawn);
            if (drawn == 0) {
                all.add((long) x.told(0, 0, 0));
                x.drop();
            }
            laid = x.lay(k, f, 0);
        }
        all.add((long) laid);
    }
}
