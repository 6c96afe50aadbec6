import java.io.IOException;
import java.lang.reflect.Method;
import java.lang.reflect.Modifier;
import java.nio.file.Files;
import java.nio.file.Path;
import java.util.HashMap;
import java.util.Map;
import java.util.regex.Matcher;
import java.util.regex.Pattern;

/** README.md: its examples stand here too, line by line, and each number that it tells of one is the answer. */
public final class ReadmeTest {
    private static final Path README = Path.of("README.md");
    private static final Path SELF = Path.of("src/test/java/ReadmeTest.java");
    private static final Pattern EXAMPLE = Pattern.compile("```java\n(.*?)```", Pattern.DOTALL);
    private static final Pattern TOLD = Pattern.compile("(?:int|long) (\\w+) = .*;\\s+// (-?\\d+)\\b.*");

    private static final Due DUE = new Due();
    private static final Map<String, Long> ANSWERS = new HashMap<>();

    public static void main(String[] args) throws IOException {
        String page = Files.readString(README);
        examples();
        examplesAreThePages(page, Files.readString(SELF));
        eachCallIsTold(page);
        testsAreTold(page);
        DUE.end();
    }

    private static void examples() {
        AgainAgain x = new AgainAgain();
        x.pay(0, 0, 3);
        x.pay(1, 0, 5);
        x.pay(1, 1, 1);
        int tit = x.machine(2);
        x.does(tit, 1, 1);
        x.goes(tit, 0, 1, 1);
        x.goes(tit, 1, 0, 0);
        int mean = x.machine(1);
        x.does(mean, 0, 1);
        int tenRounds = x.sum(tit, tit, 10);
        int mostHelpful = x.place(0, 10);
        long top = x.bestWorth(tit, 0, 0);
        long bottom = x.bestWorth(tit, 0, 1);
        int plan = x.best(tit, 0);
        int resting = x.rest(tit, tit);
        int lasting = x.slip(tit, tit, 0);
        ANSWERS.putAll(Map.of("tenRounds", (long) tenRounds, "mostHelpful", (long) mostHelpful, "top", top,
            "bottom", bottom, "plan", (long) plan, "resting", (long) resting, "lasting", (long) lasting));
        exampleOfASheet(x);
    }

    private static void exampleOfASheet(AgainAgain x) {
        int made = x.sheet(0, 0, 8);
        x.lay(0, 3, 1);
        x.lay(0, 4, 258);
        int read = x.draw(0, 0, 0, 2);
        int taken = x.draw(0, 2, 0, 2);
        int beyond = x.draw(0, 0, 4, 2);
        int noState = x.draw(0, 0, 1, 2);
        ANSWERS.putAll(Map.of("made", (long) made, "read", (long) read, "taken", (long) taken,
            "beyond", (long) beyond, "noState", (long) noState));
        DUE.is("a byte's lowest bits", x.told(read, 1, 0), 2);
    }

    private static void examplesAreThePages(String page, String self) {
        Matcher example = EXAMPLE.matcher(page);
        int told = 0;
        while (example.find()) {
            for (String line : example.group(1).split("\n")) {
                String code = line.replaceAll("\\s*//.*", "");
                DUE.holds("stands in ReadmeTest: " + code, code.isEmpty() || self.contains("        " + code + "\n"));
                Matcher answer = TOLD.matcher(line);
                if (answer.matches()) {
                    told++;
                    DUE.holds("is asked for: " + line, ANSWERS.containsKey(answer.group(1)));
                    DUE.is(line, ANSWERS.getOrDefault(answer.group(1), Long.MIN_VALUE),
                        Long.parseLong(answer.group(2)));
                }
            }
        }
        DUE.is("answers that the page tells", told, ANSWERS.size());
    }

    private static void eachCallIsTold(String page) {
        for (Method call : AgainAgain.class.getDeclaredMethods()) {
            if (Modifier.isPublic(call.getModifiers())) {
                Matcher told = Pattern.compile("`" + call.getName() + "\\(([^)]*)\\)`").matcher(page);
                boolean found = told.find();
                DUE.holds("README.md tells of " + call.getName(), found);
                String numbers = found ? told.group(1) : "";
                DUE.is("numbers of " + call.getName(), numbers.isEmpty() ? 0 : numbers.split(", ").length,
                    call.getParameterCount());
            }
        }
    }

    private static void testsAreTold(String page) throws IOException {
        try (var files = Files.list(SELF.getParent())) {
            files.map(file -> file.getFileName().toString()).filter(name -> name.endsWith("Test.java"))
                .map(name -> name.replace(".java", ""))
                .forEach(name -> DUE.holds("README.md tells of " + name, page.contains(name)));
        }
        DUE.holds("README.md tells how to run the tests", page.contains(".ci/run"));
    }
}
