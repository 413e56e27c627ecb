import java.util.ArrayList;
import java.util.Arrays;
import java.util.List;

/**
 * Calls that lead a new object to a state, and what is due there. Every look at a scene makes new
 * objects and gives them these calls, so that none of them is used for more than 512 calls.
 */
final class Scene {
    /** What leaves room for all looks and one probe among the 512 calls of an object. */
    private static final int MOST_CALLS = 180;
    private static final int MOST_STATES = 4;
    private static final String STATES = "count(11)";
    private static final List<String> LOOKS = looks();

    /** Calls after which two objects must still be alike, if they were alike before. */
    private static final String[][] PROBES = {
        {},
        {"undo()"},
        {"undo()", "undo()"},
        {"undo()", "undo()", "undo()"},
        {"undo()", "undo()", "undo()", "undo()"},
        {"undo()", "undo()", "undo()", "undo()", "undo()"},
        {"pass(1)"},
        {"pass(4)", "pass(30)"},
        {"put(0)", "put(1)", "put(2)"},
        {"play()"},
        {"type(59)", "fault(0)", "fault(1)", "play()"},
    };

    private final List<String> calls;

    private Scene(List<String> calls) {
        this.calls = calls;
    }

    /** The state of a new object after these calls. */
    static Scene of(String... calls) {
        return new Scene(new ArrayList<>()).after(calls);
    }

    /** The state after more calls, none of which may be refused. */
    Scene after(String... more) {
        List<String> all = new ArrayList<>(calls);
        all.addAll(Arrays.asList(more));
        Scene next = new Scene(all);
        next.object();
        return next;
    }

    private MealLockers object() {
        MealLockers x = new MealLockers();
        int made = 0;
        for (String call : calls) {
            int answer = Calls.make(x, call);
            made += Calls.number(call);
            if (answer < 0) {
                Edges.holds(call + " leads to the scene, and answered " + answer, false);
            }
        }
        if (made > MOST_CALLS) {
            throw new IllegalArgumentException(made + " calls leave no room for the looks");
        }
        return x;
    }

    /** This look answers what is due. A "#" in it stands for 0, 1, 2, .. with an answer each. */
    Scene tells(String look, int... due) {
        if (due.length != 1 && look.indexOf('#') < 0) {
            throw new IllegalArgumentException(look);
        }
        MealLockers x = object();
        for (int i = 0; i < due.length; i++) {
            String call = look.replace("#", Integer.toString(i));
            Edges.is(call, Calls.make(x, call), due[i]);
        }
        return this;
    }

    /** This call answers an error, and changes nothing. */
    Scene refuses(String call, int error) {
        if (error >= 0) {
            throw new IllegalArgumentException(call);
        }
        return keeps(call, error);
    }

    /** This call answers what is due, and changes nothing. */
    Scene keeps(String call, int due) {
        for (String[] probe : PROBES) {
            MealLockers asked = object();
            MealLockers other = object();
            Edges.is(call, Calls.make(asked, call), due);
            for (String more : probe) {
                Edges.is(call + " changed " + more, Calls.make(asked, more),
                        Calls.make(other, more));
            }
            alike(call + " and " + Arrays.asList(probe), asked, other, "");
        }
        return this;
    }

    /** This call is a change, which undo takes back; the scene after it is returned. */
    Scene changes(String call, int due) {
        if (due < 0) {
            throw new IllegalArgumentException(call);
        }
        MealLockers asked = object();
        int states = Math.min(MOST_STATES, asked.count(11) + 1);
        Edges.is(call, Calls.make(asked, call), due);
        Edges.is("the states after " + call, asked.count(11), states);
        Edges.is("undo of " + call, asked.undo(), states - 1);
        alike("undo of " + call, asked, object(), STATES);
        return after(call);
    }

    private static void alike(String what, MealLockers one, MealLockers other, String but) {
        for (String look : LOOKS) {
            if (!look.equals(but)) {
                Edges.is(what + ": " + look, Calls.make(one, look), Calls.make(other, look));
            }
        }
    }

    /** All that can be seen of an object of any size, in 310 calls. */
    private static List<String> looks() {
        List<String> looks = new ArrayList<>();
        addLooks(looks, "mealOf(", 24, 7);
        addLooks(looks, "lockerOf(", 5, 9);
        addLooks(looks, "personOf(", 8, 6);
        addLooks(looks, "volunteerOf(", 3, 5);
        for (int what = 0; what <= 16; what++) {
            looks.add("count(" + what + ")");
        }
        for (int person = 0; person < 8; person++) {
            looks.add("advice(" + person + ")");
        }
        looks.addAll(List.of("wouldSpoil(1)", "wouldSpoil(7)", "wouldSpoil(99)"));
        looks.addAll(List.of("move(0)", "move(1)", "move(2)", "shareBits()"));
        looks.addAll(List.of("fault(0)", "fault(1)"));
        return looks;
    }

    private static void addLooks(List<String> looks, String start, int numbers, int whats) {
        for (int number = 0; number < numbers; number++) {
            for (int what = 0; what < whats; what++) {
                looks.add(start + number + ", " + what + ")");
            }
        }
    }
}
