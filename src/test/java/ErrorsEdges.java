/** A test for each sentence under "Changes and errors". */
final class ErrorsEdges {
    private static final String TERMS = "Terms";

    /** The scene below, and a fault of form behind a command. */
    private static final String[] BUSY = {
        "locker(2, 1)", "locker(2, 0)", "locker(1, 1)", "person(1)", "person(2)", "person(0)",
        "volunteer(0, 2)", "volunteer(1, 1)", "meal(0, 40, 0)", "meal(0, 40, 2)",
        "meal(1, 30, 1)", "meal(1, 30, 0)", "take(1, 3)", "meal(1, 20, 0)", "pass(1)",
        "reserve(0, 0)", "reserve(2, 4)", "take(0, 1)", "go(0, 2)", "set(2, 30)", "text(h1;r1,2)",
    };

    private ErrorsEdges() {
    }

    /**
     * Locker 0 has meal 0, reserved by person 0, and a free cell; locker 1 is full with the meals 2
     * and 4, which person 2 has reserved; locker 2 is empty. Volunteer 0 is under way from locker 0
     * to 2 with meal 1; volunteer 1 is at locker 1 with meal 3, and has no more room.
     */
    static Scene busy() {
        return Scene.of(BUSY);
    }

    static void run() {
        changes();
        looksAreNoChanges();
        history();
        historyKeepsAll();
        orderOfErrors();
        errorsChangeNothing();
        noSuchNumber();
        constants();
    }

    private static void changes() {
        Edges.about(TERMS,
                "The changes are the calls of locker, meal, person, volunteer, reserve, "
                + "fetch, take, go, put, pass, set and play that return no error.");
        Scene[] scenes = {busy(), start()};
        for (Scene scene : scenes) {
            scene.changes("locker(3, 1)", scene == scenes[0] ? 3 : 1);
            scene.changes("person(9)", scene == scenes[0] ? 3 : 0);
            scene.changes("volunteer(0, 4)", scene == scenes[0] ? 2 : 0);
            scene.changes("meal(0, 50, 3)", scene == scenes[0] ? 5 : 0);
            scene.changes("pass(2)", 0);
            scene.changes("set(0, 4)", 4);
            scene.after("text(h1;)").changes("play()", 1);
            scene.after("clearText()").changes("play()", 0);
        }
        busy().changes("reserve(1, 2)", Edges.code(2, 1, 1));
        busy().changes("fetch(0, 1011, 0)", 0);
        busy().changes("fetch(0, 1011, 1)", 0);
        busy().after("volunteer(1, 1)").changes("take(2, 2)", 1);
        busy().changes("go(1, 0)", 2);
        busy().after("fetch(1, 1173, 0)").changes("put(1)", 1);
        busy().changes("pass(40)", 5);
    }

    private static Scene start() {
        return Scene.of("locker(2, 1)");
    }

    private static void looksAreNoChanges() {
        Scene[] scenes = {start(), busy()};
        for (Scene scene : scenes) {
            scene.keeps("lockerOf(0, 0)", 2);
            scene.keeps("count(0)", scene == scenes[0] ? 1 : 3);
        }
        busy().keeps("mealOf(1, 0)", 2).keeps("personOf(0, 3)", 0).keeps("volunteerOf(0, 3)", 2);
        busy().keeps("advice(2)", 2).keeps("wouldSpoil(99)", 31).keeps("fault(0)", 3);
        busy().after("fetch(0, 1011, 1)").keeps("shareBits()", 0);
        Scene move = Scene.of("locker(1, 0)", "locker(1, 1)", "meal(0, 50, 0)", "text(h1;)");
        move.keeps("move(0)", 0).keeps("move(1)", 1).keeps("move(2)", 48);
        int states = 4;
        busy().after("type(59)").tells("count(11)", states);
        busy().after("clearText()").tells("count(11)", states).tells("count(4)", 1);
        Scene.of("type(59)", "clearText()").tells("count(11)", 0);
    }

    private static void history() {
        Edges.about(TERMS,
                "A history of at most 4 states is kept: each change records everything "
                + "before it but the text, and if there are 5 states then, the oldest one is "
                + "dropped.");
        Scene scene = Scene.of().refuses("undo()", -2);
        for (int change = 1; change <= 10; change++) {
            scene = scene.changes("set(2, " + change + ")", change == 1 ? 24 : change - 1);
            int states = Math.min(change, 4);
            Scene back = scene.tells("count(11)", states);
            for (int left = states - 1; left >= 0; left--) {
                back.tells("undo()", left);
                back = back.after("undo()").tells("count(11)", left);
                back.tells("count(15)", value(change - states + left));
            }
            back.refuses("undo()", -2);
        }
        // Rows that undo left free are used again, wherever they stand.
        for (int undone = 1; undone <= 4; undone++) {
            Scene again = scene.after(Edges.times(undone, "undo()")).after("set(2, 50)");
            again.tells("count(11)", 5 - undone).after("undo()").tells("count(15)", 10 - undone);
            again.after("set(2, 51)", "set(2, 52)", "set(2, 53)", "undo()", "undo()", "undo()")
                    .tells("count(15)", 50);
            again.after("set(2, 51)", "set(2, 52)", "set(2, 53)", "set(2, 54)", "undo()", "undo()",
                    "undo()", "undo()").tells("count(15)", 50).refuses("undo()", -2);
        }
    }

    private static int value(int changes) {
        return changes == 0 ? 24 : changes;
    }

    private static void historyKeepsAll() {
        // The text is not kept: what was typed or emptied since stays so.
        busy().after("text(h2;)", "undo()").tells("count(12)", 3).tells("count(15)", 24);
        busy().after("clearText()", "undo()", "undo()").tells("count(12)", 0);
        Scene text = Scene.of("text(h1;)", "pass(1)", "text(h3;h4;)", "play()", "undo()");
        text.tells("count(4)", 1).tells("count(12)", 6).changes("play()", 2).tells("count(4)", 8);
        text.after("undo()").tells("count(4)", 0).changes("play()", 2).tells("count(4)", 7);
        // Four states back there is a volunteer at the start of a way, and nobody has reserved.
        Scene way = busy().after("undo()", "undo()");
        way.tells("volunteerOf(0, #)", 2, 0, 2, 0, 0).changes("go(0, 2)", 3);
        way.after("undo()").tells("mealOf(1, 0)", 0).changes("take(0, 1)", 1);
        Scene first = way.after("undo()", "undo()").tells("mealOf(4, 0)", 0).tells("count(10)", 1);
        first.refuses("undo()", -2).changes("reserve(2, 4)", 1173);
    }

    private static void orderOfErrors() {
        Edges.about(TERMS,
                "If several errors apply to a call, INVALID_ARGUMENT is returned rather than "
                + "NOT_POSSIBLE, NOT_POSSIBLE rather than LIMIT_REACHED, and LIMIT_REACHED "
                + "rather than NOT_FOUND.");
        Scene full = Scene.of(Edges.times(3, "locker(8, 1)"))
                .after(Edges.times(8, "meal(0, 9, 0)")).after(Edges.times(8, "meal(1, 9, 0)"))
                .after(Edges.times(8, "meal(2, 9, 0)")).after("locker(1, 1)");
        full.refuses("meal(0, 9, 0)", -2).refuses("meal(3, 9, 0)", -3);
        full.refuses("meal(0, 0, 0)", -1).refuses("meal(3, 0, 0)", -1);
        full.refuses("meal(0, 9, 32)", -1).refuses("meal(3, 9, -1)", -1);
        full.refuses("meal(4, 9, 0)", -1).after("locker(1, 0)").refuses("locker(9, 0)", -1);

        Scene limits = Scene.of(Edges.times(5, "locker(1, 1)")).after(Edges.times(8, "person(0)"))
                .after(Edges.times(3, "volunteer(0, 1)"));
        limits.refuses("locker(0, 1)", -1).refuses("locker(1, 2)", -1).refuses("locker(1, 1)", -3);
        limits.refuses("person(32)", -1).refuses("person(-1)", -1).refuses("person(0)", -3);
        limits.refuses("volunteer(5, 1)", -1).refuses("volunteer(0, 5)", -1);
        limits.refuses("volunteer(0, 0)", -1).refuses("volunteer(0, 1)", -3);

        Scene end = Scene.of(Edges.times(50, "pass(99)")).after("pass(50)");
        end.refuses("pass(0)", -1).refuses("pass(100)", -1).refuses("pass(MAX)", -1);
        end.refuses("pass(1)", -3).refuses("pass(99)", -3);

        // What is not possible, and out of range, too.
        busy().refuses("reserve(0, 5)", -1).refuses("reserve(3, 0)", -1)
                .refuses("reserve(0, 2)", -2);
        busy().refuses("fetch(1, 10000, 0)", -1).refuses("fetch(1, 1011, 2)", -1);
        busy().refuses("take(0, 5)", -1).refuses("take(0, 0)", -2).refuses("take(1, -1)", -1);
        busy().refuses("go(0, 3)", -1).refuses("go(0, 2)", -2).refuses("go(0, -1)", -1);

        // What is not found, and out of range, too.
        busy().refuses("mealOf(5, 4)", -1).refuses("mealOf(5, 5)", -1).refuses("mealOf(5, 6)", -1);
        busy().refuses("mealOf(2, 7)", -1).refuses("personOf(3, 3)", -1);
        Scene none = Scene.of();
        none.refuses("advice(0)", -1).refuses("move(3)", -1).refuses("fault(2)", -1);
        none.refuses("move(-1)", -1).refuses("fault(-1)", -1);
        Scene typed = Scene.of(Edges.times(60, "type(59)"));
        typed.refuses("type(31)", -1).refuses("type(127)", -1).refuses("type(32)", -3);
    }

    private static void errorsChangeNothing() {
        Edges.about(TERMS, "A call that returns an error changes nothing.");
        String[] invalid = {
            "locker(0, 0)", "locker(9, 1)", "locker(1, 2)", "meal(3, 1, 0)", "meal(0, 0, 0)",
            "meal(0, 100, 0)", "meal(0, 9, 32)", "person(32)", "volunteer(3, 1)",
            "volunteer(0, 5)", "reserve(3, 2)", "reserve(1, 5)", "fetch(3, 1011, 0)",
            "fetch(0, 999, 0)", "fetch(0, 1011, 2)", "take(2, 2)", "take(1, 5)", "go(2, 0)",
            "go(1, 3)", "put(2)", "pass(0)", "pass(100)", "set(4, 1)", "set(0, 49)",
            "mealOf(5, 0)", "mealOf(0, 7)", "lockerOf(3, 0)", "lockerOf(0, 9)", "personOf(3, 0)",
            "personOf(0, 6)", "volunteerOf(2, 0)", "volunteerOf(0, 5)", "count(17)", "advice(3)",
            "wouldSpoil(0)", "wouldSpoil(100)", "move(3)", "type(31)", "type(127)", "fault(2)",
        };
        for (String call : invalid) {
            busy().refuses(call, Edges.INVALID_ARGUMENT);
        }
        String[] impossible = {
            "meal(1, 9, 0)", "reserve(0, 0)", "reserve(0, 2)", "reserve(2, 2)", "reserve(1, 0)",
            "reserve(1, 1)", "reserve(1, 3)", "fetch(1, 1011, 0)", "fetch(0, 1012, 0)",
            "fetch(0, 1173, 1)", "take(0, 0)", "take(1, 2)", "take(1, 3)", "go(0, 1)", "go(0, 2)",
            "go(1, 1)", "put(0)", "put(1)", "play()",
        };
        for (String call : impossible) {
            busy().refuses(call, Edges.NOT_POSSIBLE);
        }
        String[] missing = {
            "mealOf(1, 4)", "mealOf(2, 4)", "mealOf(1, 5)", "mealOf(2, 5)", "mealOf(0, 6)",
            "personOf(1, 3)", "shareBits()",
        };
        for (String call : missing) {
            busy().refuses(call, Edges.NOT_FOUND);
        }
        Scene.of().refuses("undo()", -2).refuses("move(0)", -4).refuses("fault(0)", -4);
        Scene.of("person(0)").refuses("advice(0)", -4);
        // A text of which some commands are done before the fault.
        String[] texts = {
            "h3;r1,2;r0,0;", "f0,1011;g1,0;p0;", "h9;h0;", "n0,1011;h2;t0,9;", "h4;;",
        };
        for (String text : texts) {
            busy().after("text(" + text + ")").refuses("play()", -2);
        }
    }

    private static void noSuchNumber() {
        Edges.about(TERMS,
                "If there is no locker, meal, person or volunteer with a certain number, "
                + "this is INVALID_ARGUMENT.");
        String[] lockers = {"meal(#, 9, 0)", "volunteer(#, 1)", "fetch(#, 1011, 0)", "go(1, #)",
            "lockerOf(#, 0)"};
        for (String call : lockers) {
            Edges.refusesBeside(busy(), call, 2);
        }
        String[] meals = {"reserve(1, #)", "take(1, #)", "mealOf(#, 0)"};
        for (String call : meals) {
            Edges.refusesBeside(busy(), call, 4);
        }
        String[] people = {"reserve(#, 2)", "personOf(#, 0)", "advice(#)"};
        for (String call : people) {
            Edges.refusesBeside(busy(), call, 2);
        }
        String[] volunteers = {"take(#, 2)", "go(#, 0)", "put(#)", "volunteerOf(#, 0)"};
        for (String call : volunteers) {
            Edges.refusesBeside(busy(), call, 1);
        }
        Scene none = Scene.of();
        String[] calls = {"meal(0, 9, 0)", "volunteer(0, 1)", "fetch(0, 1000, 0)", "go(0, 0)",
            "lockerOf(0, 0)", "reserve(0, 0)", "take(0, 0)", "mealOf(0, 0)", "personOf(0, 0)",
            "advice(0)", "put(0)", "volunteerOf(0, 0)"};
        for (String call : calls) {
            none.refuses(call, Edges.INVALID_ARGUMENT);
        }
        // What was undone is not there any more.
        Scene undone = Scene.of("locker(1, 1)", "person(0)", "meal(0, 9, 0)", "volunteer(0, 1)",
                "undo()", "undo()", "undo()");
        undone.refuses("mealOf(0, 0)", -1).refuses("personOf(0, 0)", -1);
        undone.refuses("volunteerOf(0, 0)", -1).after("undo()").refuses("lockerOf(0, 0)", -1);
    }

    private static void constants() {
        Edges.about(TERMS,
                "The constants: `INVALID_ARGUMENT = -1`: An argument is out of its range, or "
                + "there is no such locker, meal, person or volunteer.");
        Edges.is("INVALID_ARGUMENT", MealLockers.INVALID_ARGUMENT, -1);
        Edges.about(TERMS,
                "`NOT_POSSIBLE = -2`: The call is not possible in the present state.");
        Edges.is("NOT_POSSIBLE", MealLockers.NOT_POSSIBLE, -2);
        Edges.about(TERMS, "`LIMIT_REACHED = -3`: A fixed limit has been reached.");
        Edges.is("LIMIT_REACHED", MealLockers.LIMIT_REACHED, -3);
        Edges.about(TERMS, "`NOT_FOUND = -4`: There is no such value.");
        Edges.is("NOT_FOUND", MealLockers.NOT_FOUND, -4);
    }
}
