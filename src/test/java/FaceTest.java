import java.io.IOException;
import java.lang.management.ManagementFactory;
import java.lang.reflect.Constructor;
import java.lang.reflect.Field;
import java.lang.reflect.Method;
import java.lang.reflect.Modifier;
import java.nio.file.Files;
import java.nio.file.Path;
import java.util.Arrays;
import java.util.HashSet;
import java.util.List;
import java.util.Set;
import java.util.regex.Pattern;

/** The face of the class, some rules of LANGUAGE.md, and that calls make no objects. */
public final class FaceTest {
    private static final Due DUE = new Due("FaceTest");
    private static final String[] METHODS = {
        "locker 2", "meal 3", "person 1", "volunteer 2", "reserve 2", "fetch 3", "take 2", "go 2",
        "put 1", "pass 1", "set 2", "mealOf 2", "lockerOf 2", "personOf 2", "volunteerOf 2",
        "count 1", "advice 1", "wouldSpoil 1", "move 1", "shareBits 0", "undo 0", "type 1",
        "clearText 0", "fault 1", "play 0",
    };
    private static final String[] CONSTANTS = {
        "INVALID_ARGUMENT", "NOT_POSSIBLE", "LIMIT_REACHED", "NOT_FOUND",
    };

    public static void main(String[] args) throws IOException {
        methods();
        fieldsAndConstructors();
        nestedClasses();
        words();
        callsMakeNoObjects();
        DUE.end();
    }

    private static void methods() {
        Set<String> due = new HashSet<>(Arrays.asList(METHODS));
        Set<String> names = new HashSet<>();
        for (String method : METHODS) {
            names.add(method.substring(0, method.indexOf(' ')));
        }
        Set<String> found = new HashSet<>();
        for (Method m : MealLockers.class.getDeclaredMethods()) {
            if (Modifier.isPublic(m.getModifiers())) {
                found.add(m.getName() + " " + m.getParameterCount());
                DUE.holds(m + " answers an int", m.getReturnType() == int.class);
                DUE.holds(m + " is of the object", !Modifier.isStatic(m.getModifiers()));
            } else {
                DUE.holds(m + " is private", Modifier.isPrivate(m.getModifiers()));
                DUE.holds(m + " has a name of its own", !names.contains(m.getName()));
            }
        }
        DUE.holds("the public methods are " + found, found.equals(due));
        for (Class<?> nested : MealLockers.class.getDeclaredClasses()) {
            for (Method m : nested.getDeclaredMethods()) {
                DUE.holds(m + " has a name of its own", !names.contains(m.getName()));
                DUE.holds(m + " has at most seven parameters", m.getParameterCount() <= 7);
            }
        }
    }

    private static void fieldsAndConstructors() {
        DUE.holds("the class is final", Modifier.isFinal(MealLockers.class.getModifiers()));
        Set<String> found = new HashSet<>();
        for (Field f : MealLockers.class.getDeclaredFields()) {
            if (Modifier.isPublic(f.getModifiers())) {
                found.add(f.getName());
                DUE.holds(f + " is a constant", Modifier.isStatic(f.getModifiers())
                        && Modifier.isFinal(f.getModifiers()) && f.getType() == int.class);
            } else {
                DUE.holds(f + " is private", Modifier.isPrivate(f.getModifiers()));
            }
        }
        DUE.holds("the constants are " + found,
                found.equals(new HashSet<>(Arrays.asList(CONSTANTS))));
        Constructor<?>[] constructors = MealLockers.class.getDeclaredConstructors();
        DUE.is("constructors", constructors.length, 1);
        DUE.holds("it is public", Modifier.isPublic(constructors[0].getModifiers()));
        DUE.is("its parameters", constructors[0].getParameterCount(), 0);
    }

    private static void nestedClasses() {
        Class<?>[] nested = MealLockers.class.getDeclaredClasses();
        DUE.holds("at most some twelve classes", nested.length <= 12);
        for (Class<?> one : nested) {
            DUE.holds(one + " is private", Modifier.isPrivate(one.getModifiers()));
            DUE.holds(one + " is static", Modifier.isStatic(one.getModifiers()));
            int fields = 0;
            for (Field f : one.getDeclaredFields()) {
                DUE.holds(f + " is private", Modifier.isPrivate(f.getModifiers()));
                fields += Modifier.isStatic(f.getModifiers()) ? 0 : 1;
            }
            DUE.holds(one + " has some twenty fields at most", fields <= 20);
        }
    }

    private static void words() throws IOException {
        String source = Files.readString(Path.of("src/main/java/MealLockers.java"));
        String code = source.replaceAll("(?s)/\\*.*?\\*/", "").replaceAll("//[^\n]*", "");
        String[] words = {
            "import", "package", "throw", "throws", "try", "catch", "finally", "assert",
            "synchronized", "native", "volatile", "transient", "protected", "yield", "record",
            "var", "NaN", "System", "Thread", "Object", "Float", "Double", "Exact",
        };
        for (String word : words) {
            DUE.holds("no " + word, !Pattern.compile("\\b" + word + "\\b").matcher(code).find());
        }
        DUE.holds("no lambda", !code.contains("->"));
        DUE.holds("no method reference", !code.contains("::"));
        DUE.holds("no text", !code.contains("\""));
        DUE.holds("signs 1 to 127", source.chars().allMatch(c -> c < 128));
        shortMethods(source);
    }

    /** Methods stand at most two levels deep, so their ends are lines of 4 or 8 blanks and "}". */
    private static void shortMethods(String source) {
        List<String> lines = Arrays.asList(source.split("\n"));
        for (int i = 0; i < lines.size(); i++) {
            String line = lines.get(i);
            if (line.matches(" {4}( {4})?[a-z][^=;]*\\(.*\\{") && !line.contains("class ")) {
                String end = line.replaceAll("\\S.*", "") + "}";
                int length = lines.subList(i, lines.size()).indexOf(end);
                DUE.holds("short: " + line.trim(), length > 0 && length <= 60);
            }
        }
    }

    private static void callsMakeNoObjects() {
        if (!(ManagementFactory.getThreadMXBean() instanceof com.sun.management.ThreadMXBean)) {
            return;
        }
        com.sun.management.ThreadMXBean bean =
                (com.sun.management.ThreadMXBean) ManagementFactory.getThreadMXBean();
        long thread = Thread.currentThread().getId();
        MealLockers x = new MealLockers();
        everyCall(x);
        long before = bean.getThreadAllocatedBytes(thread);
        long empty = bean.getThreadAllocatedBytes(thread) - before;
        before = bean.getThreadAllocatedBytes(thread);
        for (int i = 0; i < 10; i++) {
            everyCall(x);
        }
        long made = bean.getThreadAllocatedBytes(thread) - before - empty;
        DUE.holds("10 rounds of calls made " + made + " bytes", made < 1000);
    }

    private static void everyCall(MealLockers x) {
        x.locker(3, 1);
        x.locker(3, 0);
        x.meal(0, 60, 1);
        x.meal(1, 60, 0);
        x.person(0);
        x.volunteer(1, 2);
        x.fetch(0, x.reserve(0, 0), 0);
        x.take(0, 1);
        x.go(0, 0);
        x.put(0);
        x.pass(1);
        x.set(0, 3);
        x.mealOf(0, 0);
        x.lockerOf(0, 2);
        x.personOf(0, 3);
        x.volunteerOf(0, 2);
        x.count(9);
        x.advice(0);
        x.wouldSpoil(99);
        x.move(2);
        x.shareBits();
        x.type('h');
        x.type('1');
        x.type(';');
        x.fault(0);
        x.play();
        x.undo();
        x.clearText();
    }
}
