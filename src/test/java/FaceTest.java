import java.lang.reflect.Constructor;
import java.lang.reflect.Field;
import java.lang.reflect.Method;
import java.lang.reflect.Modifier;
import java.util.Arrays;
import java.util.HashSet;
import java.util.Set;
import java.util.TreeSet;

/** The face of the class is the document's, and the forms that LANGUAGE.md asks of its members (rules 1, 2, 5, 11). */
public final class FaceTest {
    private static final Due DUE = new Due();

    private static final String[] METHODS = {"int pay(int, int, int)", "int discount(int, int)", "int machine(int)",
        "int does(int, int, int)", "int goes(int, int, int, int)", "int told(int, int, int)", "int drop()",
        "int sheet(int, int, int)", "int lay(int, int, int)", "int draw(int, int, int, int)",
        "int action(int, int, int)", "int match(int, int, int)", "int sum(int, int, int)", "long mean(int, int, int)",
        "long worth(int, int, int)", "int slip(int, int, int)", "int like(int, int)", "int smallest(int)",
        "int best(int, int)", "long bestWorth(int, int, int)", "long planWorth(int, int, int, int)",
        "int rest(int, int)", "int everywhere(int, int)", "int deviation(int, int, int)", "int resists(int, int)",
        "int invaders(int)", "int score(int, int)", "int place(int, int)", "int count(int)"};

    public static void main(String[] args) {
        methods();
        constructors();
        fields();
        insideClasses();
        DUE.end();
    }

    private static String told(Method m) {
        StringBuilder all = new StringBuilder(m.getReturnType() + " " + m.getName() + "(");
        for (Class<?> type : m.getParameterTypes()) {
            all.append(all.charAt(all.length() - 1) == '(' ? "" : ", ").append(type);
        }
        return all.append(')').toString();
    }

    private static void methods() {
        Set<String> found = new TreeSet<>();
        for (Method m : AgainAgain.class.getDeclaredMethods()) {
            if (!Modifier.isPrivate(m.getModifiers())) {
                DUE.holds("public and no more: " + m, m.getModifiers() == Modifier.PUBLIC);
                found.add(told(m));
            }
        }
        Set<String> asked = new TreeSet<>(Arrays.asList(METHODS));
        DUE.holds("the methods are the document's: " + found, found.equals(asked));
        int mods = AgainAgain.class.getModifiers();
        DUE.holds("the class is public and final", mods == (Modifier.PUBLIC | Modifier.FINAL));
    }

    private static void constructors() {
        Constructor<?>[] all = AgainAgain.class.getDeclaredConstructors();
        DUE.is("constructors", all.length, 1);
        DUE.is("its parameters", all[0].getParameterCount(), 0);
        DUE.is("it is public", all[0].getModifiers(), Modifier.PUBLIC);
    }

    private static void fields() {
        Set<String> open = new TreeSet<>();
        for (Field f : AgainAgain.class.getDeclaredFields()) {
            if (!Modifier.isPrivate(f.getModifiers())) {
                open.add(f.getType() + " " + f.getName());
                int constant = Modifier.PUBLIC | Modifier.STATIC | Modifier.FINAL;
                DUE.is("modifiers of " + f, f.getModifiers(), constant);
            }
        }
        DUE.holds("the constants are the document's: " + open,
            open.equals(new TreeSet<>(Arrays.asList("int BAD", "int STATE", "int FULL", "int NONE"))));
        formsOf(AgainAgain.class);
    }

    private static void insideClasses() {
        Class<?>[] all = AgainAgain.class.getDeclaredClasses();
        DUE.holds("at most 12 classes", all.length + 1 <= 12);
        for (Class<?> inside : all) {
            int mods = inside.getModifiers();
            DUE.holds("static: " + inside, Modifier.isStatic(mods));
            DUE.holds("private or package-visible: " + inside,
                !Modifier.isPublic(mods) && !Modifier.isProtected(mods));
            DUE.is("classes inside " + inside, inside.getDeclaredClasses().length, 0);
            formsOf(inside);
        }
    }

    private static void formsOf(Class<?> type) {
        Set<String> face = new HashSet<>();
        for (String m : METHODS) {
            face.add(m.substring(m.indexOf(' ') + 1, m.indexOf('(')));
        }
        int kept = 0;
        for (Field f : type.getDeclaredFields()) {
            boolean isStatic = Modifier.isStatic(f.getModifiers());
            kept += isStatic ? 0 : 1;
            DUE.holds("a static field is final: " + f, !isStatic || Modifier.isFinal(f.getModifiers()));
            DUE.holds("a static field is a number: " + f, !isStatic || f.getType().isPrimitive());
        }
        DUE.holds("at most 20 fields: " + type, kept <= 20);
        for (Method m : type.getDeclaredMethods()) {
            DUE.holds("at most 7 parameters: " + m, m.getParameterCount() <= 7);
            DUE.holds("no name of the face for " + m,
                type == AgainAgain.class && Modifier.isPublic(m.getModifiers()) || !face.contains(m.getName()));
        }
    }
}
