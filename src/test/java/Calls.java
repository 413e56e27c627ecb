import java.util.Map;

/**
 * The calls of the face, by their names or as texts such as "meal(0, 9, 0)". MAX and MIN stand for
 * the greatest and the least int, and "text(h1;)" empties the text and types this one.
 */
final class Calls {
    private static final Map<String, Integer> ARGUMENTS = Map.ofEntries(
            Map.entry("locker", 2), Map.entry("meal", 3), Map.entry("person", 1),
            Map.entry("volunteer", 2), Map.entry("reserve", 2), Map.entry("fetch", 3),
            Map.entry("take", 2), Map.entry("go", 2), Map.entry("put", 1), Map.entry("pass", 1),
            Map.entry("set", 2), Map.entry("mealOf", 2), Map.entry("lockerOf", 2),
            Map.entry("personOf", 2), Map.entry("volunteerOf", 2), Map.entry("count", 1),
            Map.entry("advice", 1), Map.entry("wouldSpoil", 1), Map.entry("move", 1),
            Map.entry("shareBits", 0), Map.entry("undo", 0), Map.entry("type", 1),
            Map.entry("clearText", 0), Map.entry("fault", 1), Map.entry("play", 0));
    private static final int MOST_ARGUMENTS = 3;

    private Calls() {
    }

    /** How many calls of the face stand behind this text. */
    static int number(String call) {
        return isText(call) ? 1 + inside(call).length() : 1;
    }

    /** Makes the call and returns its answer; for a text this is its length. */
    static int make(MealLockers x, String call) {
        if (isText(call)) {
            Due.write(x, inside(call));
            return inside(call).length();
        }
        String name = call.substring(0, call.indexOf('('));
        String[] parts = inside(call).isEmpty() ? new String[0] : inside(call).split(", ");
        if (parts.length != ARGUMENTS.getOrDefault(name, -1)) {
            throw new IllegalArgumentException("no such call: " + call);
        }
        int[] arguments = new int[MOST_ARGUMENTS];
        for (int i = 0; i < parts.length; i++) {
            arguments[i] = argument(parts[i]);
        }
        return answer(x, name, arguments[0], arguments[1], arguments[2]);
    }

    private static boolean isText(String call) {
        return call.startsWith("text(");
    }

    private static String inside(String call) {
        return call.substring(call.indexOf('(') + 1, call.length() - 1);
    }

    private static int argument(String part) {
        switch (part) {
            case "MAX": return Integer.MAX_VALUE;
            case "MIN": return Integer.MIN_VALUE;
            default: return Integer.parseInt(part);
        }
    }

    /** Arguments that the call does not have are not looked at. */
    static int answer(MealLockers x, String name, int a, int b, int c) {
        switch (name) {
            case "locker": return x.locker(a, b);
            case "meal": return x.meal(a, b, c);
            case "person": return x.person(a);
            case "volunteer": return x.volunteer(a, b);
            case "reserve": return x.reserve(a, b);
            case "fetch": return x.fetch(a, b, c);
            case "take": return x.take(a, b);
            case "go": return x.go(a, b);
            case "put": return x.put(a);
            case "pass": return x.pass(a);
            case "set": return x.set(a, b);
            case "mealOf": return x.mealOf(a, b);
            case "lockerOf": return x.lockerOf(a, b);
            case "personOf": return x.personOf(a, b);
            case "volunteerOf": return x.volunteerOf(a, b);
            case "count": return x.count(a);
            case "advice": return x.advice(a);
            case "wouldSpoil": return x.wouldSpoil(a);
            case "move": return x.move(a);
            case "shareBits": return x.shareBits();
            case "undo": return x.undo();
            case "type": return x.type(a);
            case "clearText": return x.clearText();
            case "fault": return x.fault(a);
            case "play": return x.play();
            default: throw new IllegalArgumentException(name);
        }
    }
}
