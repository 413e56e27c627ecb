import java.io.IOException;
import java.lang.reflect.Method;
import java.lang.reflect.Modifier;
import java.nio.file.Files;
import java.nio.file.Path;
import java.util.List;
import java.util.regex.Matcher;
import java.util.regex.Pattern;

/** What README.md tells: the answers of its examples, the calls, the constants and the tests. */
public final class ReadmeTest {
    private static final Due DUE = new Due("ReadmeTest");
    private static final Pattern CALL =
            Pattern.compile(" {4}x\\.(\\w+\\(.*\\)); +// (-?\\d+)(:.*)?");
    private static final Pattern TEXT =
            Pattern.compile(" {4}for \\(char c : \"(.*)\"\\.toCharArray.*");
    private static final String NEW_OBJECT = "    MealLockers x = new MealLockers();";

    public static void main(String[] args) throws IOException {
        List<String> lines = Files.readAllLines(Path.of("README.md"));
        examples(lines);
        String readme = String.join("\n", lines);
        calls(readme);
        constants(readme);
        tests(readme);
        DUE.end();
    }

    private static void examples(List<String> lines) {
        MealLockers x = null;
        int answers = 0;
        for (String line : lines) {
            Matcher call = CALL.matcher(line);
            Matcher text = TEXT.matcher(line);
            if (line.equals(NEW_OBJECT)) {
                x = new MealLockers();
            } else if (text.matches()) {
                Due.write(x, text.group(1));
            } else if (call.matches()) {
                DUE.is(line.trim(), Calls.make(x, call.group(1)), Integer.parseInt(call.group(2)));
                answers++;
            } else {
                DUE.holds("not an example: " + line, !line.startsWith("    x."));
            }
        }
        DUE.holds(answers + " examples are some", answers > 10);
    }

    private static void calls(String readme) {
        for (Method m : MealLockers.class.getDeclaredMethods()) {
            if (Modifier.isPublic(m.getModifiers())) {
                int number = m.getParameterCount();
                String parameters = number == 0 ? "" : "\\w+(, \\w+){" + (number - 1) + "}";
                Pattern call = Pattern.compile("`" + m.getName() + "\\(" + parameters + "\\)`");
                DUE.holds("README.md names " + m, call.matcher(readme).find());
            }
        }
    }

    private static void constants(String readme) {
        String[] rows = {
            "| `INVALID_ARGUMENT` | " + MealLockers.INVALID_ARGUMENT + " |",
            "| `NOT_POSSIBLE` | " + MealLockers.NOT_POSSIBLE + " |",
            "| `LIMIT_REACHED` | " + MealLockers.LIMIT_REACHED + " |",
            "| `NOT_FOUND` | " + MealLockers.NOT_FOUND + " |",
        };
        for (String row : rows) {
            DUE.holds("README.md has the row " + row, readme.contains("\n" + row));
        }
    }

    private static void tests(String readme) throws IOException {
        try (var files = Files.list(Path.of("src/test/java"))) {
            files.map(file -> file.getFileName().toString())
                    .filter(name -> name.endsWith("Test.java"))
                    .forEach(name -> DUE.holds("README.md names " + name,
                            readme.contains("`" + name.replace(".java", "") + "`")));
        }
    }
}
