/** The edges of promises 1 to 8, in the document's order, a row for each; each row has an object of its own. */
public final class GameEdgesTest {
    private static final int LEAST = Integer.MIN_VALUE;
    private static final int GREATEST = Integer.MAX_VALUE;

    private static final Due DUE = new Due();
    private static final Edges NEW = new Edges(DUE, AgainAgain::new);
    private static final Edges SOME = new Edges(DUE, Fixtures::someOfAll);
    private static final Edges ALL = new Edges(DUE, Fixtures::allFull);

    public static void main(String[] args) {
        newObject();
        callsOfAnObject();
        payRefused();
        payTaken();
        discount();
        machineRefused();
        machineMade();
        does();
        goesRefused();
        goesTaken();
        told();
        drop();
        DUE.end();
    }

    private static void newObject() {
        NEW.stays("1: no machines", 0, x -> x.count(0));
        NEW.stays("1: no machine 0", -1, x -> x.told(0, 0, 0));
        NEW.stays("1: none to drop", -4, x -> x.drop());
        NEW.stays("1: no unlike ones", 0, x -> x.count(1));
        NEW.stays("1: no pairs", 0, x -> x.count(2));
        NEW.stays("1: sheet 0 has no cells, not 0 of them", -4, x -> x.count(3));
        for (int k = 0; k < 4; k++) {
            int sheet = k;
            NEW.stays("1: sheet " + k + " is nothing to lay in", -11, x -> x.lay(sheet, 0, 0));
            NEW.stays("1: sheet " + k + " is nothing to draw of", -11, x -> x.draw(sheet, 0, 0, 1));
        }
        for (int a = 0; a < 3; a++) {
            for (int b = 0; b < 3; b++) {
                int mine = a;
                int theirs = b;
                NEW.is("1: PAY(" + a + ", " + b + ") is 0 at first", 0, x -> Fixtures.steady(x, mine),
                    x -> Fixtures.steady(x, theirs), x -> x.sum(0, 1, 1000));
            }
        }
        NEW.is("1: DISCOUNT is 1 by 2 at first", 2, x -> x.pay(0, 0, 1), x -> x.machine(1), x -> x.worth(0, 0, 0));
    }

    /** An object answers all of its 512 calls. */
    private static void callsOfAnObject() {
        AgainAgain x = new AgainAgain();
        for (int call = 1; call < 512; call += 2) {
            DUE.is("call " + call, x.machine(4), 0);
            DUE.is("call " + (call + 1), x.drop(), 0);
        }
        AgainAgain y = new AgainAgain();
        y.machine(2);
        for (int call = 2; call < 512; call++) {
            y.goes(0, 0, 0, call % 2);
        }
        DUE.is("call 512", y.told(0, 0, 1), 1);
    }

    private static void payRefused() {
        for (int a : Fixtures.outside(3)) {
            SOME.stays("2: a is no action", -1, x -> x.pay(a, 1, 8));
            SOME.stays("2: b is no action", -1, x -> x.pay(1, a, 8));
        }
        for (int v : new int[] {-51, 51, LEAST, GREATEST}) {
            SOME.stays("2: " + v + " is beyond -50 to 50", -1, x -> x.pay(0, 1, v));
        }
    }

    private static void payTaken() {
        for (int v : new int[] {-50, 0, 50}) {
            SOME.is("2: " + v + " may be paid", 1, x -> x.pay(2, 2, v));
            SOME.is("2: " + v + " is paid", v, x -> x.pay(2, 2, v), x -> x.sum(0, 0, 1));
        }
        SOME.is("2: the latest one counts", -3, x -> x.pay(2, 2, 50), x -> x.pay(2, 2, -3), x -> x.sum(0, 0, 1));
        SOME.is("2: it is for who does a", 9, x -> x.pay(2, 0, 9), x -> x.sum(0, 1, 1));
        SOME.is("2: it is not for who does b", -5, x -> x.pay(2, 0, 9), x -> x.sum(1, 0, 1));
        SOME.is("2: it is the same for one side ..", 9, x -> x.pay(2, 2, 9), x -> Fixtures.steady(x, 2),
            x -> x.sum(0, 4, 1));
        SOME.is("2: .. and for the other one", 9, x -> x.pay(2, 2, 9), x -> Fixtures.steady(x, 2),
            x -> x.sum(4, 0, 1));
    }

    private static void discount() {
        for (int q : new int[] {1, 0, -1, 5, LEAST, GREATEST}) {
            SOME.stays("3: q " + q + " is none of 2 to 4", -1, x -> x.discount(1, q));
        }
        for (int q = 2; q <= 4; q++) {
            int by = q;
            for (int p : new int[] {0, q, -1, q + 1, LEAST, GREATEST}) {
                SOME.stays("3: p " + p + " is none of 1 to " + (q - 1), -1, x -> x.discount(p, by));
            }
            for (int p = 1; p < q; p++) {
                int of = p;
                SOME.is("3: " + p + " by " + q, 1, x -> x.discount(of, by));
            }
        }
        SOME.stays("3: 1 up to q - 1 is none, if q is 1", -1, x -> x.discount(0, 1));
        SOME.is("3: the latest one counts", 60, x -> x.discount(1, 2), x -> x.discount(3, 4), x -> x.worth(0, 0, 0));
    }

    private static void machineRefused() {
        for (int n : new int[] {0, 5, -1, LEAST, GREATEST}) {
            SOME.stays("4: n " + n + " is none of 1 to 4", -1, x -> x.machine(n));
            ALL.stays("4: n " + n + " is BAD, ahead of FULL", -1, x -> x.machine(n));
        }
        for (int n = 1; n <= 4; n++) {
            int states = n;
            ALL.stays("4: FULL, of " + n, -3, x -> x.machine(states));
        }
    }

    private static void machineMade() {
        for (int n = 1; n <= 4; n++) {
            int states = n;
            NEW.is("4: the first one of " + n + " is 0", 0, x -> x.machine(states));
            SOME.is("4: the next one of " + n + " is 4", 4, x -> x.machine(states));
            SOME.is("4: no state is behind its last one", -1, x -> x.machine(states), x -> x.told(4, states, 0));
            for (int s = 0; s < n; s++) {
                int state = s;
                SOME.is("4: action 0 at first", 0, x -> x.machine(states), x -> x.told(4, state, 0));
                for (int what = 1; what <= 3; what++) {
                    int told = what;
                    SOME.is("4: itself at first", s, x -> x.machine(states), x -> x.told(4, state, told));
                }
            }
        }
        ALL.stays("4: there are 12", 12, x -> x.count(0));
        ALL.is("4: the 12th", 11, x -> x.drop(), x -> x.machine(4));
        ALL.is("4: the 12th begins anew", 0, x -> x.drop(), x -> x.machine(1), x -> x.told(11, 0, 0));
        NEW.is("4: it begins in state 0", 0, x -> x.machine(2), x -> x.does(0, 1, 2), x -> x.action(0, 0, 0));
    }

    private static void does() {
        NEW.stays("5: there is no machine", -1, x -> x.does(0, 0, 0));
        ALL.stays("5: no 13th machine", -1, x -> x.does(12, 0, 1));
        for (int m : Fixtures.outside(4)) {
            SOME.stays("5: no such machine", -1, x -> x.does(m, 0, 1));
        }
        for (int n = 1; n <= 4; n++) {
            int m = n - 1;
            for (int s : Fixtures.outside(n)) {
                SOME.stays("5: no such state of " + n, -1, x -> x.does(m, s, 1));
            }
            for (int a : Fixtures.outside(3)) {
                SOME.stays("5: no such action", -1, x -> x.does(m, m, a));
            }
            for (int a = 0; a < 3; a++) {
                int action = a;
                SOME.is("5: the last of " + n + " states does " + a, 1, x -> x.does(m, m, action));
                SOME.is("5: it is told", a, x -> x.does(m, m, action), x -> x.told(m, m, 0));
            }
        }
        ALL.is("5: the 12th machine does 2", 2, x -> x.does(11, 0, 2), x -> x.told(11, 0, 0));
        SOME.is("5: its next states stay", 2, x -> x.does(3, 1, 2), x -> x.told(3, 1, 1));
    }

    private static void goesRefused() {
        NEW.stays("6: there is no machine", -1, x -> x.goes(0, 0, 0, 0));
        ALL.stays("6: no 13th machine", -1, x -> x.goes(12, 0, 0, 0));
        for (int m : Fixtures.outside(4)) {
            SOME.stays("6: no such machine", -1, x -> x.goes(m, 0, 0, 0));
        }
        for (int n = 1; n <= 4; n++) {
            int m = n - 1;
            for (int s : Fixtures.outside(n)) {
                SOME.stays("6: no such state of " + n, -1, x -> x.goes(m, s, 0, 0));
                SOME.stays("6: no such next state of " + n, -1, x -> x.goes(m, 0, 0, s));
            }
            for (int a : Fixtures.outside(3)) {
                SOME.stays("6: no such action", -1, x -> x.goes(m, 0, a, 0));
            }
        }
    }

    private static void goesTaken() {
        for (int m = 0; m < 4; m++) {
            int last = m;
            for (int a = 0; a < 3; a++) {
                int heard = a;
                SOME.is("6: it is 1", 1, x -> x.goes(last, last, heard, last));
                SOME.is("6: the last state goes to 0", 0, x -> x.goes(last, last, heard, 0),
                    x -> x.told(last, last, 1 + heard));
                SOME.is("6: state 0 goes to the last one", m, x -> x.goes(last, 0, heard, last),
                    x -> x.told(last, 0, 1 + heard));
            }
        }
        ALL.is("6: the last state of the 12th machine", 3, x -> x.drop(), x -> x.machine(4),
            x -> x.goes(11, 0, 2, 3), x -> x.told(11, 0, 3));
        SOME.is("6: its action stays", 2, x -> x.goes(3, 2, 0, 0), x -> x.told(3, 2, 0));
        SOME.is("6: where it goes for another action stays", 1, x -> x.goes(3, 2, 0, 0), x -> x.told(3, 2, 2));
    }

    private static void told() {
        NEW.stays("7: there is no machine", -1, x -> x.told(0, 0, 0));
        ALL.stays("7: no 13th machine", -1, x -> x.told(12, 0, 0));
        for (int m : Fixtures.outside(4)) {
            SOME.stays("7: no such machine", -1, x -> x.told(m, 0, 0));
        }
        for (int n = 1; n <= 4; n++) {
            int m = n - 1;
            for (int s : Fixtures.outside(n)) {
                SOME.stays("7: no such state of " + n, -1, x -> x.told(m, s, 0));
            }
            for (int what : Fixtures.outside(4)) {
                SOME.stays("7: what is none of 0 to 3", -1, x -> x.told(m, 0, what));
            }
        }
        int[] last = {1, 0, 3, 3};
        for (int what = 0; what < 4; what++) {
            int of = what;
            SOME.stays("7: the last state, " + what, last[what], x -> x.told(3, 3, of));
        }
    }

    private static void drop() {
        NEW.stays("8: none", -4, x -> x.drop());
        NEW.stays("8: none, once the last one has gone", -4, x -> x.machine(1), x -> x.drop(), x -> x.drop());
        SOME.is("8: the latest one's number", 3, x -> x.drop());
        SOME.is("8: then the one ahead of it", 2, x -> x.drop(), x -> x.drop());
        ALL.is("8: the 12th", 11, x -> x.drop());
        NEW.is("8: the only one", 0, x -> x.machine(4), x -> x.drop());
        SOME.is("8: it is gone", -1, x -> x.drop(), x -> x.told(3, 0, 0));
        SOME.is("8: the one ahead of it stays", 2, x -> x.drop(), x -> x.told(2, 1, 0));
        SOME.is("8: its number comes again", 3, x -> x.drop(), x -> x.machine(2));
        SOME.is("8: with as many states as asked", -1, x -> x.drop(), x -> x.machine(2), x -> x.told(3, 2, 0));
        SOME.is("8: with action 0", 0, x -> x.drop(), x -> x.machine(4), x -> x.told(3, 2, 0));
        SOME.is("8: with itself as the next state", 3, x -> x.drop(), x -> x.machine(4), x -> x.told(3, 3, 1));
        SOME.is("8: sheets stay", 9, x -> x.drop(), x -> x.count(3));
    }
}
