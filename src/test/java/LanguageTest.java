import java.io.IOException;
import java.nio.file.Files;
import java.nio.file.Path;
import java.util.Arrays;
import java.util.HashSet;
import java.util.Set;
import java.util.regex.Matcher;
import java.util.regex.Pattern;

/** What can be read off the program's text of the rules of LANGUAGE.md (3, 4, 6, 9, 11, 12, 13). */
public final class LanguageTest {
    private static final Path PROGRAM = Path.of("src/main/java/AgainAgain.java");
    private static final int MOST_LINES = 60;
    private static final String[] FORBIDDEN_WORDS = {"package", "throw", "throws", "try", "catch", "finally",
        "synchronized", "assert", "volatile", "native", "transient", "yield", "Object", "System.out", "System.in",
        "System.exit", "System.nanoTime", "System.currentTimeMillis", "Thread", "Random", "HashMap", "Map", "Set",
        "Stream", "hashCode", "toString", "equals", "getClass", "reflect", "File", "Path"};
    private static final String[] FORBIDDEN_SIGNS = {"->", "::", "@", "Exact(", "while (true)", "for (;;)"};
    private static final String[] LIBRARY = {"java.util.Arrays", "java.util.ArrayList", "java.util.List",
        "java.util.Iterator"};

    private static final Due DUE = new Due();

    public static void main(String[] args) throws IOException {
        String text = Files.readString(PROGRAM);
        signs(text);
        String code = text.replaceAll("(?s)/\\*.*?\\*/", "").replaceAll("//[^\n]*", "");
        DUE.holds("no texts: then what stands in the code is code", code.indexOf('"') < 0);
        words(code);
        imports(code);
        methodsAreShort(text);
        nothingIsMadeByCalls(code);
        DUE.end();
    }

    private static void signs(String text) {
        DUE.holds("signs 1 to 127 alone", text.chars().allMatch(c -> c >= 1 && c <= 127));
        DUE.holds("no tab", text.indexOf('\t') < 0);
    }

    private static void words(String code) {
        for (String word : FORBIDDEN_WORDS) {
            DUE.holds("no " + word, !Pattern.compile("\\b" + Pattern.quote(word) + "\\b").matcher(code).find());
        }
        for (String sign : FORBIDDEN_SIGNS) {
            DUE.holds("no " + sign, !code.contains(sign));
        }
    }

    private static void imports(String code) {
        Set<String> allowed = new HashSet<>(Arrays.asList(LIBRARY));
        Matcher found = Pattern.compile("import\\s+([^;]+);").matcher(code);
        while (found.find()) {
            DUE.holds("import " + found.group(1), allowed.contains(found.group(1)));
        }
        Matcher calls = Pattern.compile("\\b(Arrays|Math|Long|Integer|System)\\.(\\w+)").matcher(code);
        Set<String> functions = new HashSet<>(Arrays.asList("Arrays.fill", "Arrays.copyOf", "Arrays.copyOfRange",
            "System.arraycopy", "Math.abs", "Math.max", "Math.min", "Math.floorMod", "Math.floorDiv",
            "Long.compare", "Integer.compare", "Integer.bitCount"));
        while (calls.find()) {
            DUE.holds("library " + calls.group(), functions.contains(calls.group()));
        }
    }

    /** A method here begins with a line that is indented by 4 or 8, ends in a brace and has round ones. */
    private static void methodsAreShort(String text) {
        String[] lines = text.split("\n");
        Pattern head = Pattern.compile("^( {4}| {8})(public |private |static |final )*[\\w\\[\\]]+ ?\\w*\\(.*\\) \\{$");
        int methods = 0;
        for (int i = 0; i < lines.length; i++) {
            Matcher m = head.matcher(lines[i]);
            if (!m.matches() || lines[i].trim().matches("(if|for|while|switch)\\b.*")) {
                continue;
            }
            methods++;
            int end = i;
            while (end < lines.length && !lines[end].equals(m.group(1) + "}")) {
                end++;
            }
            DUE.holds("short: " + lines[i].trim(), end - i < MOST_LINES);
        }
        DUE.holds("the methods are found: " + methods, methods >= 29);
    }

    /** Rows and objects are made with the object, by its fields, and used again. */
    private static void nothingIsMadeByCalls(String code) {
        for (String line : code.split("\n")) {
            if (line.contains("new ")) {
                DUE.holds("made by a field: " + line.trim(), line.trim().startsWith("private final "));
            }
        }
    }
}
