import java.util.Arrays;
import java.util.LinkedHashSet;
import java.util.Set;

/** What the tests of edges have in common: the errors, and the sentence that a test is about. */
final class Edges {
    static final int INVALID_ARGUMENT = -1;
    static final int NOT_POSSIBLE = -2;
    static final int LIMIT_REACHED = -3;
    static final int NOT_FOUND = -4;
    static final String[] FAR_OUT = {"-1", "MIN", "MAX", "-2147483647", "2147483646", "65536"};

    private static final Due DUE = new Due("EdgesTest");
    private static final Set<String> QUOTED = new LinkedHashSet<>();
    private static String current = "";

    private Edges() {
    }

    /** What follows is about this sentence, which stands in this part of the document. */
    static void about(String part, String sentence) {
        current = part + ": " + sentence;
        QUOTED.add(current);
    }

    static Set<String> quoted() {
        return QUOTED;
    }

    static void is(String call, int got, int want) {
        DUE.is(call + " [" + current + "]", got, want);
    }

    static void holds(String what, boolean held) {
        DUE.holds(what + " [" + current + "]", held);
    }

    static void end() {
        DUE.end();
    }

    static int code(int meal, int hour, int person) {
        return 1000 + (37 * meal + 11 * hour + 7 * person) % 9000;
    }

    /** The same call, so many times. */
    static String[] times(int number, String call) {
        String[] calls = new String[number];
        Arrays.fill(calls, call);
        return calls;
    }

    /** A scene refuses the call with each of these arguments at the place of the "#". */
    static void refusesEach(Scene scene, String call, int error, String... arguments) {
        for (String argument : arguments) {
            scene.refuses(call.replace("#", argument), error);
        }
    }

    /** A scene has numbers up to this one: those beside them are INVALID_ARGUMENT at the "#". */
    static void refusesBeside(Scene scene, String call, int last) {
        refusesEach(scene, call, INVALID_ARGUMENT, FAR_OUT);
        refusesEach(scene, call, INVALID_ARGUMENT, Integer.toString(last + 1));
    }

    /** The call is a change with the least and the greatest argument at the "#", and not beside. */
    static void changesWithin(Scene scene, String call, int due, int least, int most) {
        scene.changes(call.replace("#", Integer.toString(least)), due);
        scene.changes(call.replace("#", Integer.toString(most)), due);
        refusesEach(scene, call, INVALID_ARGUMENT, FAR_OUT);
        refusesEach(scene, call, INVALID_ARGUMENT, Integer.toString(least - 1),
                Integer.toString(most + 1));
    }
}
