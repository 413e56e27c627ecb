import java.util.Random;

/**
 * Runs of 512 calls, the same ones in the class and in PlainModel, and every answer compared.
 * The seeds are fixed, so that each run of the test makes the same calls.
 */
public final class ModelTest {
    private static final Due DUE = new Due("ModelTest");
    private static final int RUNS = 3000;
    private static final int CALLS = 512;
    private static final String[] CALLS_BY_WEIGHT = {
        "locker", "meal", "meal", "meal", "meal", "person", "volunteer",
        "reserve", "reserve", "reserve", "reserve", "fetch", "fetch", "fetch",
        "take", "take", "take", "go", "go", "go", "put", "put",
        "pass", "pass", "pass", "set", "mealOf", "mealOf", "mealOf", "lockerOf", "lockerOf",
        "personOf", "personOf", "volunteerOf", "volunteerOf", "count", "count",
        "advice", "wouldSpoil", "move", "move", "shareBits", "undo", "text", "text",
        "fault", "fault", "play", "play",
    };
    private static final int[] WRONG = {
        Integer.MIN_VALUE, Integer.MAX_VALUE, -1, -2, 0, 5, 6, 8, 9, 24, 32, 100, 999, 1000, 10000,
        -2147483647, 65536, 715827883, 1 << 30, 1 << 24,
    };

    private final Random random;
    private final MealLockers real = new MealLockers();
    private final PlainModel model = new PlainModel();
    private final int seed;
    private final boolean longHours;
    private int calls;

    private ModelTest(int seed) {
        this.seed = seed;
        this.random = new Random(seed);
        this.longHours = seed % 4 == 0;
    }

    public static void main(String[] args) {
        for (int seed = 1; seed <= RUNS; seed++) {
            new ModelTest(seed).run();
        }
        DUE.end();
    }

    private void run() {
        for (int i = 0; i < 3; i++) {
            call("locker", 1 + random.nextInt(8), random.nextInt(2), 0);
        }
        for (int i = 0; i < 2; i++) {
            call("person", random.nextInt(4), 0, 0);
            call("volunteer", random.nextInt(3), 1 + random.nextInt(4), 0);
        }
        while (calls < CALLS) {
            anyCall(CALLS_BY_WEIGHT[random.nextInt(CALLS_BY_WEIGHT.length)]);
        }
    }

    private void anyCall(String name) {
        if (name.equals("text")) {
            write();
        } else if (random.nextInt(12) == 0) {
            call(name, wild(), wild(), wild());
        } else {
            likelyCall(name);
        }
    }

    private int wild() {
        return random.nextBoolean() ? WRONG[random.nextInt(WRONG.length)] : random.nextInt(5);
    }

    private int locker() {
        return random.nextInt(Math.max(1, model.call("count", 0, 0, 0)));
    }

    private int meal() {
        int meals = Math.max(1, model.call("count", 1, 0, 0));
        int meal = random.nextInt(meals);
        // Meals that are gone are asked for less often.
        for (int i = 0; i < 4 && model.call("mealOf", meal, 0, 0) > 2; i++) {
            meal = random.nextInt(meals);
        }
        return meal;
    }

    private int person() {
        return random.nextInt(Math.max(1, model.call("count", 2, 0, 0)));
    }

    private int volunteer() {
        return random.nextInt(Math.max(1, model.call("count", 3, 0, 0)));
    }

    private int hours() {
        return longHours ? 1 + random.nextInt(99) : 1 + random.nextInt(6);
    }

    private void likelyCall(String name) {
        switch (name) {
            case "locker": call(name, 1 + random.nextInt(4), random.nextInt(2), 0); break;
            case "meal":
                call(name, locker(), 1 + random.nextInt(random.nextBoolean() ? 99 : 12),
                        random.nextInt(3) == 0 ? random.nextInt(32) : 0);
                break;
            case "person": call(name, random.nextInt(8), 0, 0); break;
            case "volunteer": call(name, locker(), 1 + random.nextInt(4), 0); break;
            case "reserve": call(name, person(), meal(), 0); break;
            case "fetch": fetch(); break;
            case "take": call(name, volunteer(), meal(), 0); break;
            case "go": call(name, volunteer(), locker(), 0); break;
            case "put": call(name, volunteer(), 0, 0); break;
            case "pass": call(name, hours(), 0, 0); break;
            case "set": call(name, random.nextInt(4), 1 + random.nextInt(9), 0); break;
            case "mealOf": call(name, meal(), random.nextInt(7), 0); break;
            case "lockerOf": call(name, locker(), random.nextInt(9), 0); break;
            case "personOf": call(name, person(), random.nextInt(6), 0); break;
            case "volunteerOf": call(name, volunteer(), random.nextInt(5), 0); break;
            case "count": call(name, random.nextInt(17), 0, 0); break;
            case "advice": call(name, person(), 0, 0); break;
            case "wouldSpoil": call(name, 1 + random.nextInt(99), 0, 0); break;
            case "move": call(name, random.nextInt(3), 0, 0); break;
            case "fault": call(name, random.nextInt(2), 0, 0); break;
            default: call(name, 0, 0, 0); break;
        }
    }

    private void fetch() {
        int meal = meal();
        int code = model.call("mealOf", meal, 4, 0);
        int locker = Math.max(0, model.call("mealOf", meal, 1, 0));
        call("fetch", locker, code < 0 ? 1000 + random.nextInt(2000) : code, random.nextInt(2));
    }

    private void write() {
        if (random.nextInt(3) != 0) {
            call("clearText", 0, 0, 0);
        }
        for (int n = 1 + random.nextInt(4); n > 0; n--) {
            String command = random.nextInt(25) == 0 ? noise() : command();
            for (int i = 0; i < command.length(); i++) {
                call("type", command.charAt(i), 0, 0);
            }
        }
    }

    private String noise() {
        String signs = "rfntgph0123456789,;; hx";
        StringBuilder noise = new StringBuilder();
        for (int n = 1 + random.nextInt(8); n > 0; n--) {
            noise.append(signs.charAt(random.nextInt(signs.length())));
        }
        return noise.toString();
    }

    private String command() {
        String zeros = random.nextInt(5) == 0 ? "0" : "";
        switch (random.nextInt(7)) {
            case 0: return "r" + zeros + person() + "," + meal() + ";";
            case 1: return code("f");
            case 2: return code("n");
            case 3: return "t" + volunteer() + "," + zeros + meal() + ";";
            case 4: return "g" + zeros + volunteer() + "," + locker() + ";";
            case 5: return "p" + zeros + volunteer() + ";";
            default: return "h" + zeros + hours() + ";";
        }
    }

    private String code(String letter) {
        int meal = meal();
        int code = Math.max(990, model.call("mealOf", meal, 4, 0));
        return letter + Math.max(0, model.call("mealOf", meal, 1, 0)) + "," + code + ";";
    }

    private void call(String name, int a, int b, int c) {
        if (calls++ < CALLS) {
            DUE.is("seed " + seed + ", call " + calls + ": " + name + "(" + a + ", " + b + ", " + c
                    + ")", Calls.answer(real, name, a, b, c), model.call(name, a, b, c));
        }
    }
}
