import java.io.IOException;
import java.nio.file.Files;
import java.nio.file.Path;
import java.util.ArrayList;
import java.util.Arrays;
import java.util.List;
import java.util.Set;

/** Looks whether each sentence of the document has a test, or is known to name no boundary case. */
final class Sentences {
    private static final Path DOCUMENT = Path.of("../shared/DOC.md");

    /** The parts that tell what the calls do. */
    private static final String[] PARTS = {"What it is", "Terms", "Promise"};

    /** What is between two sentences of a line. */
    private static final String BETWEEN = "(?<=\\.|\\.\\)) (?=[A-Z(`])";

    /** Starts of sentences that name no boundary case. */
    private static final List<String> WITHOUT = Arrays.asList(
            "What it is: Surplus meals in lockers:",
            "Terms: All numbers are whole numbers,",
            "Terms: People, codes, strikes",
            "Terms: Ahead of the calls ",
            "Promise 2: `int locker(", "Promise 3: `int meal(", "Promise 4: `int person(",
            "Promise 5: `int volunteer(", "Promise 6: `int reserve(", "Promise 7: `int fetch(",
            "Promise 8: `int take(", "Promise 9: `int go(", "Promise 10: `int put(",
            "Promise 11: `int pass(", "Promise 12: `int set(", "Promise 13: `int mealOf(",
            "Promise 14: `int lockerOf(", "Promise 15: `int personOf(",
            "Promise 16: `int volunteerOf(", "Promise 17: `int count(", "Promise 23: `int type(",
            "Promise 25: `int fault(");

    private Sentences() {
    }

    /** Without the document there is nothing to compare. */
    static void compare(Set<String> quoted) throws IOException {
        if (!Files.exists(DOCUMENT)) {
            System.out.println("EdgesTest: there is no " + DOCUMENT);
            return;
        }
        Edges.about("Sentences", "each one has a test, and each test has one");
        List<String> sentences = sentences(Files.readAllLines(DOCUMENT));
        for (String sentence : sentences) {
            Edges.holds("has a test: " + sentence,
                    quoted.contains(sentence) || isWithoutBoundary(sentence));
        }
        for (String start : WITHOUT) {
            Edges.holds("begins a sentence: " + start,
                    sentences.stream().anyMatch(one -> one.startsWith(start)));
        }
        for (String quote : quoted) {
            Edges.holds("is in the document: " + quote,
                    sentences.contains(quote) || quote.startsWith("Sentences: "));
        }
    }

    private static boolean isWithoutBoundary(String sentence) {
        return WITHOUT.stream().anyMatch(sentence::startsWith);
    }

    /** Each sentence behind the part where it stands; a line of a list or of answers is one. */
    private static List<String> sentences(List<String> lines) {
        List<String> found = new ArrayList<>();
        String part = "";
        for (String line : lines) {
            if (line.startsWith("## ")) {
                part = line.substring(3);
                part = part.startsWith("Promise ") ? part.substring(0, part.indexOf(':')) : part;
            } else if (isAsked(part) && !line.isBlank() && !line.startsWith("#")) {
                boolean whole = line.startsWith("- ") || line.startsWith("Returns ");
                for (String sentence : whole ? new String[] {line} : line.split(BETWEEN)) {
                    found.add(part + ": " + sentence.trim());
                }
            }
        }
        return found;
    }

    private static boolean isAsked(String part) {
        return Arrays.stream(PARTS).anyMatch(part::startsWith);
    }
}
