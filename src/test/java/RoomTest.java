import java.lang.management.ManagementFactory;
import com.sun.management.ThreadMXBean;

/** A run's calls live in one room: they make nothing, whatever they are; and the longest run ends soon. */
public final class RoomTest {
    private static final int CALLS = 512;
    // Far below what a single small object at each call would take.
    private static final long MOST_BYTES = 4096;

    private static final Due DUE = new Due();

    public static void main(String[] args) {
        ThreadMXBean threads = (ThreadMXBean) ManagementFactory.getThreadMXBean();
        long mine = Thread.currentThread().getId();
        // Once for what Java itself makes as it loads classes.
        all(twelveOfFour());
        for (int kind = 0; kind < 20; kind++) {
            AgainAgain x = twelveOfFour();
            long before = threads.getThreadAllocatedBytes(mine);
            for (int call = 0; call < CALLS; call++) {
                one(x, kind, call);
            }
            long made = threads.getThreadAllocatedBytes(mine) - before;
            DUE.holds("calls of kind " + kind + " make nothing: " + made + " bytes", made < MOST_BYTES);
        }
        long before = threads.getThreadAllocatedBytes(mine);
        AgainAgain x = new AgainAgain();
        long made = threads.getThreadAllocatedBytes(mine) - before;
        DUE.holds("a new object is small: " + made + " bytes", made < 20000 && x.count(0) == 0);
        DUE.end();
    }

    private static AgainAgain twelveOfFour() {
        AgainAgain x = Fixtures.dilemma();
        x.sheet(0, 0, 60);
        for (int m = 0; m < 12; m++) {
            x.machine(4);
            for (int s = 0; s < 4; s++) {
                x.does(m, s, (m + s) % 3);
                x.goes(m, s, m % 3, (s + 1) % 4);
            }
        }
        return x;
    }

    private static void all(AgainAgain x) {
        for (int kind = 0; kind < 20; kind++) {
            one(x, kind, kind);
        }
    }

    private static long one(AgainAgain x, int kind, int call) {
        int i = call % 12;
        int j = call / 12 % 12;
        switch (kind) {
            case 0:
                return x.sheet(call % 4, call % 3, 60);
            case 1:
                return x.lay(0, call % 60, 0);
            case 2:
                return x.draw(0, 0, 0, 4);
            case 3:
                return call % 2 == 0 ? x.drop() : x.machine(4);
            case 4:
                return x.action(i, j, 1000);
            case 5:
                return x.sum(i, j, 1000);
            case 6:
                return x.mean(i, j, 0);
            case 7:
                return x.worth(i, j, 0);
            case 8:
                return x.slip(i, j, 100);
            case 9:
                return x.like(i, j);
            case 10:
                return x.smallest(i);
            case 11:
                return x.bestWorth(i, j % 4, 0);
            case 12:
                return x.planWorth(i, j % 4, 80, 0);
            case 13:
                return x.everywhere(i, j);
            case 14:
                return x.deviation(i, j, 2);
            case 15:
                return x.invaders(i);
            case 16:
                return x.score(i, 1000);
            case 17:
                return x.place(i, 1000);
            case 18:
                return x.count(1);
            default:
                return x.count(2);
        }
    }
}
