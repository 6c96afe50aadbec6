import java.lang.reflect.InvocationTargetException;
import java.lang.reflect.Method;
import java.lang.reflect.Modifier;
import java.util.Arrays;
import java.util.Comparator;
import java.util.HashMap;
import java.util.Map;

/**
 * Each call with every mix of small numbers, numbers about the document's bounds and the least and the greatest of
 * all, on an empty object, one with some of everything and a full one: none throws, and each answers as the model.
 */
public final class GridTest {
    // The objects begin again ahead of the 512th call.
    private static final int MOST_CALLS = 500;
    private static final int LEAST = Integer.MIN_VALUE;
    private static final int GREATEST = Integer.MAX_VALUE;

    // By how many numbers a call takes: the more these are, the fewer of each.
    private static final int[][] NUMBERS = {
        {},
        {LEAST, LEAST + 1, -60, -15, -4, -3, -2, -1, 0, 1, 2, 3, 4, 5, 6, 10, 11, 12, 13, 16, 50, 60, 61, 1000, 1001,
            GREATEST - 1, GREATEST},
        {LEAST, LEAST + 1, -2, -1, 0, 1, 2, 3, 4, 5, 10, 11, 12, 13, 60, 61, 100, 101, 999, 1000, 1001, GREATEST - 1,
            GREATEST},
        {LEAST, -51, -50, -1, 0, 1, 2, 3, 4, 11, 12, 50, 51, 60, 61, 100, 101, 1000, 1001, GREATEST},
        {LEAST, -1, 0, 1, 2, 3, 4, 12, 27, 56, 80, 81, GREATEST - 3, GREATEST}};

    private static final String[] EMPTY = {};
    private static final String[] SOME = {"pay 0 0 3", "pay 0 1 -9", "pay 1 0 5", "pay 1 1 1", "pay 1 2 50",
        "pay 2 0 4", "pay 2 2 -50", "discount 2 3",
        "machine 1", "does 0 0 1",
        "machine 2", "does 1 1 2", "goes 1 0 1 1", "goes 1 0 2 1", "goes 1 1 0 0",
        "machine 3", "does 2 1 1", "does 2 2 2", "goes 2 0 0 1", "goes 2 0 2 2", "goes 2 1 1 2", "goes 2 2 0 0",
        "machine 4", "does 3 1 2", "does 3 3 1", "goes 3 0 1 1", "goes 3 1 0 2", "goes 3 1 2 3", "goes 3 2 1 3",
        "goes 3 3 0 1", "goes 3 3 2 0",
        "sheet 0 0 60", "lay 0 0 1", "lay 0 1 1", "lay 0 5 257", "lay 0 57 3", "sheet 1 1 5", "lay 1 4 65538",
        "sheet 2 2 0"};
    private static final String[] FULL = {"machine 4", "does 4 2 2", "goes 4 0 0 2", "goes 4 2 2 3", "machine 1",
        "machine 2", "does 6 0 2", "does 6 1 1", "goes 6 0 0 1", "goes 6 1 2 0", "machine 3", "goes 7 0 0 2",
        "machine 1", "does 8 0 2", "machine 1", "does 9 0 1", "machine 4", "does 10 3 1", "goes 10 0 2 3",
        "machine 2", "does 11 1 2", "goes 11 0 0 1", "goes 11 1 2 0", "sheet 3 2 4"};

    private static final Due DUE = new Due();
    private static final Map<String, Method> OF_MODEL = new HashMap<>();

    private final String[][] beginning;
    private AgainAgain x;
    private Model model;
    private int calls;

    private GridTest(String[]... beginning) {
        this.beginning = beginning;
    }

    public static void main(String[] args) throws ReflectiveOperationException {
        for (Method call : Model.class.getDeclaredMethods()) {
            OF_MODEL.put(call.getName() + call.getParameterCount(), call);
        }
        Method[] face = AgainAgain.class.getDeclaredMethods();
        Arrays.sort(face, Comparator.comparing(Method::getName));
        for (Method call : face) {
            if (Modifier.isPublic(call.getModifiers())) {
                new GridTest(EMPTY).all(call);
                new GridTest(SOME).all(call);
                new GridTest(SOME, FULL).all(call);
            }
        }
        DUE.end();
    }

    private void all(Method call) throws ReflectiveOperationException {
        int[] numbers = NUMBERS[call.getParameterCount()];
        Object[] taken = new Object[call.getParameterCount()];
        int mixes = 1;
        for (int i = 0; i < taken.length; i++) {
            mixes *= numbers.length;
        }
        begin();
        for (int mix = 0; mix < mixes; mix++) {
            int left = mix;
            for (int i = 0; i < taken.length; i++) {
                taken[i] = numbers[left % numbers.length];
                left /= numbers.length;
            }
            if (calls >= MOST_CALLS) {
                begin();
            }
            compare(call, taken);
        }
        // A call without a number is made until it is refused, and once more.
        for (int again = 0; again < 13 && taken.length == 0; again++) {
            compare(call, taken);
        }
    }

    private void begin() throws ReflectiveOperationException {
        x = new AgainAgain();
        model = new Model();
        calls = 0;
        for (String[] part : beginning) {
            for (String line : part) {
                String[] words = line.split(" ");
                Object[] taken = new Object[words.length - 1];
                Class<?>[] types = new Class<?>[taken.length];
                for (int i = 0; i < taken.length; i++) {
                    taken[i] = Integer.valueOf(words[i + 1]);
                    types[i] = int.class;
                }
                compare(AgainAgain.class.getMethod(words[0], types), taken);
            }
        }
    }

    private void compare(Method call, Object[] taken) throws ReflectiveOperationException {
        calls++;
        String told = call.getName() + Arrays.toString(taken) + " on a beginning of " + beginning.length;
        Method due = OF_MODEL.get(call.getName() + call.getParameterCount());
        long want = ((Number) due.invoke(model, taken)).longValue();
        try {
            DUE.is(told, ((Number) call.invoke(x, taken)).longValue(), want);
        } catch (InvocationTargetException thrown) {
            DUE.holds(told + " threw " + thrown.getCause(), false);
        }
    }
}
