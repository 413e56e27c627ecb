/** A test for each sentence on texts, and of the promises 22 to 26, that names a boundary case. */
final class TextsEdges {
    private static final String TERMS = "Terms";
    private static final int FORM = 1;
    private static final int ARGUMENT = 2;
    private static final int STATE = 3;

    private TextsEdges() {
    }

    static void run() {
        length();
        digits();
        commands();
        faultOfForm();
        faultOfArgument();
        faultOfState();
        faultPosition();
        promise22();
        promise23();
        promise24();
        promise25();
        promise26();
        promise26OneChange();
    }

    /** Locker 0 with two meals, an empty one, a person and a volunteer, at the hour 0. */
    private static Scene ready() {
        return Scene.of("locker(2, 1)", "locker(2, 0)", "person(1)", "volunteer(0, 1)",
                "meal(0, 60, 0)", "meal(0, 60, 1)");
    }

    private static void faulty(Scene scene, String text, int position, int reason) {
        Scene typed = scene.after("text(" + text + ")");
        typed.tells("fault(#)", position, reason).refuses("play()", Edges.NOT_POSSIBLE);
    }

    private static Scene played(Scene scene, String text, int commands) {
        Scene typed = scene.after("text(" + text + ")");
        typed.refuses("fault(0)", Edges.NOT_FOUND).refuses("fault(1)", Edges.NOT_FOUND);
        return typed.changes("play()", commands).tells("count(12)", text.length());
    }

    private static void aboutTexts() {
        Edges.about(TERMS,
                "There is a text of at most 60 characters, initially empty: commands, each "
                + "followed by \";\": \"r\" a person \",\" a meal (reserved), \"f\" a locker "
                + "\",\" a code (fetched), \"n\" a locker \",\" a code (refused), \"t\" a "
                + "volunteer \",\" a meal (taken), \"g\" a volunteer \",\" a locker (goes), "
                + "\"p\" a volunteer (puts in), or \"h\" hours; numbers of one to four digits, "
                + "0 ahead allowed.");
    }

    private static void length() {
        aboutTexts();
        Scene.of().tells("count(12)", 0).keeps("clearText()", 0).refuses("fault(0)", -4);
        Scene most = Scene.of(Edges.times(59, "type(32)")).tells("count(12)", 59);
        most.tells("type(32)", 60).after("type(126)").tells("count(12)", 60)
                .refuses("type(32)", Edges.LIMIT_REACHED).refuses("type(59)", Edges.LIMIT_REACHED);
        // 20 commands fill the text; the last one has no room for its ";" if another is longer.
        played(Scene.of(), "h1;".repeat(20), 20).tells("count(4)", 20);
        Scene cut = Scene.of("text(" + "h1;".repeat(19) + "h01)").refuses("type(59)", -3);
        cut.tells("fault(#)", 57, FORM).refuses("play()", -2).tells("count(4)", 0);
    }

    private static void digits() {
        aboutTexts();
        played(Scene.of(), "h1;", 1).tells("count(4)", 1);
        played(Scene.of(), "h01;h99;h001;h0001;h0099;", 5).tells("count(4)", 1 + 99 + 1 + 1 + 99);
        faulty(Scene.of(), "h;", 0, FORM);
        faulty(Scene.of(), "h00001;", 0, FORM);
        faulty(Scene.of(), "h10000;", 0, FORM);
        faulty(Scene.of(), "h0000;", 0, ARGUMENT);
        faulty(Scene.of(), "h9999;", 0, ARGUMENT);
        played(ready(), "r0,0;", 1);
        played(ready(), "r0000,0000;", 1).tells("mealOf(0, 0)", 1);
        faulty(ready(), "r00000,0;", 0, FORM);
        faulty(ready(), "r0,00000;", 0, FORM);
        faulty(ready(), "r,0;", 0, FORM);
        faulty(ready(), "r0,;", 0, FORM);
        played(ready().after("reserve(0, 0)"), "f0000,1000;", 1).tells("count(7)", 1);
        faulty(ready().after("reserve(0, 0)"), "f0,01000;", 0, FORM);
        faulty(ready().after("reserve(0, 0)"), "f0,10000;", 0, FORM);
        // The digits end with 9, and begin with 0.
        String[] signs = {"/", ":", " ", "-", "+", ".", "a", "~"};
        for (String sign : signs) {
            faulty(Scene.of(), "h" + sign + ";", 0, FORM);
            faulty(Scene.of(), "h1" + sign + ";", 0, FORM);
            faulty(ready(), "r0" + sign + "0;", 0, FORM);
        }
    }

    private static void commands() {
        aboutTexts();
        Scene reserved = played(ready(), "r0,0;", 1);
        reserved.tells("mealOf(0, #)", 1, 0, 60, 0, 1000, 0, -4);
        played(reserved, "f0,1000;", 1).tells("mealOf(0, 0)", 3);
        played(reserved, "n0,1000;", 1).tells("mealOf(0, 0)", 4);
        Scene taken = played(ready(), "t0,1;", 1).tells("mealOf(1, #)", 2, 0, 60, 1, -4, -4, 0);
        played(taken, "g0,1;", 1).tells("volunteerOf(0, #)", 1, 1, 2, 1, 0);
        played(taken, "p0;", 1).tells("mealOf(1, 0)", 0).tells("lockerOf(0, 4)", 1);
        played(taken, "h2;", 1).tells("count(4)", 2).tells("mealOf(#, 2)", 58, 56);
        played(ready(), "t0,1;g0,1;h1;r0,0;n0,1011;h3;g0,0;h99;", 8).tells("count(4)", 103);
        // No other sign begins a command: those beside the letters, great letters, and digits.
        String[] letters = {
            "q", "s", "e", "o", "m", "u", "R", "F", "N", "T", "G", "l", "v", "0", " ",
        };
        for (String letter : letters) {
            faulty(ready(), letter + "0,0;", 0, FORM);
        }
        String[] single = {"i", "P", "H", "o", "q", "l", "1", ","};
        for (String letter : single) {
            faulty(ready(), letter + "1;", 0, FORM);
        }
        String[] twoNumbers = {"r", "f", "n", "t", "g"};
        for (String letter : twoNumbers) {
            faulty(ready(), letter + "0;", 0, FORM);
            faulty(ready(), letter + "0,0", 0, FORM);
            faulty(ready(), letter + "0,0,0;", 0, FORM);
        }
        faulty(ready(), "p0,0;", 0, FORM);
        faulty(ready(), "h1,1;", 0, FORM);
    }

    private static void aboutFaults() {
        Edges.about(TERMS,
                "The fault of the text is the position, from 0, of the first character of "
                + "the first command that is not possible, when those ahead of it are done; "
                + "its reason is 1 if it is not of this form, its \";\" included, 2 if the "
                + "call would return INVALID_ARGUMENT for it, 3 if it would return another "
                + "error.");
    }

    private static void faultOfForm() {
        aboutFaults();
        faulty(ready(), "h1", 0, FORM);
        faulty(ready(), "p0", 0, FORM);
        faulty(ready(), "r0,0", 0, FORM);
        faulty(ready(), "h", 0, FORM);
        faulty(ready(), ";", 0, FORM);
        faulty(ready(), "h1;;", 3, FORM);
        faulty(ready(), "h1; ", 3, FORM);
        faulty(ready(), " h1;", 0, FORM);
        faulty(ready(), "h1 ;", 0, FORM);
        faulty(ready(), "h1;h1", 3, FORM);
        // Not of the form is told rather than what the call would return.
        faulty(ready(), "h0", 0, FORM);
        faulty(ready(), "p9", 0, FORM);
        faulty(ready(), "p0", 0, FORM);
    }

    private static void faultOfArgument() {
        aboutFaults();
        String[] texts = {
            "h0;", "h100;", "p1;", "r1,0;", "r0,2;", "f2,1000;", "f0,999;", "n2,1000;", "n0,0;",
            "t1,0;", "t0,2;", "g1,0;", "g0,2;", "f0,0999;", "r9999,0;", "t0,9999;", "g9999,9999;",
        };
        for (String text : texts) {
            faulty(ready(), text, 0, ARGUMENT);
        }
        played(ready(), "h99;", 1);
    }

    private static void faultOfState() {
        aboutFaults();
        String[] texts = {"p0;", "r0,1;", "f0,1000;", "f0,9999;", "f1,1000;", "n1,9999;", "g0,0;"};
        for (String text : texts) {
            faulty(ready(), text, 0, STATE);
        }
        faulty(ready(), "t0,0;t0,1;", 5, STATE);
        faulty(ready(), "g0,1;t0,0;", 5, STATE);
        faulty(ready(), "r0,0;t0,0;", 5, STATE);
        faulty(ready(), "t0,0;g0,1;p0;", 10, STATE);
        // The limit of time is another error, too.
        Scene late = Scene.of(Edges.times(50, "pass(99)"));
        played(late, "h50;", 1).tells("count(4)", 5000);
        faulty(late, "h51;", 0, STATE);
        faulty(late, "h100;", 0, ARGUMENT);
        faulty(late, "h50;h1;", 4, STATE);
        faulty(late, "h49;h1;h1;", 7, STATE);
        faulty(late, "h50;h0;", 4, ARGUMENT);
    }

    private static void faultPosition() {
        aboutFaults();
        // The commands ahead are done: with them a command is possible, or is not any more.
        played(ready(), "r0,0;f0,1000;", 2);
        faulty(ready(), "f0,1000;r0,0;", 0, STATE);
        faulty(ready(), "r0,0;r0,0;", 5, STATE);
        played(ready(), "r0,0;h3;f0,1000;", 3);
        faulty(ready(), "r0,0;h4;f0,1000;", 8, STATE);
        faulty(ready(), "h1;r0,0;f0,1000;", 8, STATE);
        played(ready(), "h1;r0,0;f0,1011;", 3);
        played(ready(), "h59;t0,0;", 2);
        faulty(ready(), "h60;t0,0;", 4, STATE);
        // The first one counts, whatever is behind it.
        faulty(ready(), "h0;x", 0, ARGUMENT);
        faulty(ready(), "p0;h0;x", 0, STATE);
        faulty(ready(), "h1;p0;h0;", 3, STATE);
        faulty(ready(), "x;h1;h1;", 0, FORM);
        faulty(ready(), "h1;".repeat(19) + "h0;", 57, ARGUMENT);
        faulty(ready(), "h1;".repeat(19) + "p0;", 57, STATE);
        faulty(ready(), "h1;".repeat(18) + "h01;h", 58, FORM);
        faulty(ready(), "h1;".repeat(18) + "h001;;", 59, FORM);
    }

    private static void promise22() {
        Edges.about("Promise 22",
                "`int undo()`: Restores the latest state of the history, which is removed "
                + "from it.");
        Scene scene = ready().after("reserve(0, 0)");
        scene.tells("count(11)", 4).after("undo()").tells("count(11)", 3).tells("mealOf(0, 0)", 0)
                .changes("reserve(0, 0)", 1000);
        scene.after("undo()", "undo()").tells("count(1)", 1).changes("meal(0, 9, 0)", 1);
        Edges.about("Promise 22",
                "Returns the number of states that are left in the history; NOT_POSSIBLE if "
                + "it is empty.");
        scene.tells("undo()", 3).after("undo()").tells("undo()", 2).after("undo()")
                .tells("undo()", 1)
                .after("undo()").tells("undo()", 0).after("undo()").refuses("undo()", -2);
        Scene.of().refuses("undo()", -2).after("locker(1, 1)").tells("undo()", 0).after("undo()")
                .refuses("undo()", -2).refuses("lockerOf(0, 0)", -1);
        Scene.of("type(59)", "clearText()").refuses("undo()", -2);
        Scene.of("play()").tells("undo()", 0);
    }

    private static void promise23() {
        Edges.about("Promise 23", "- `character`: 32 to 126");
        Scene none = Scene.of();
        none.tells("type(32)", 1).tells("type(126)", 1);
        Edges.refusesEach(none, "type(#)", -1, "31", "127", "0", "255", "65568", "65640");
        Edges.refusesEach(none, "type(#)", -1, Edges.FAR_OUT);
        Edges.about("Promise 23",
                "Returns the length of the text; INVALID_ARGUMENT if character is out of "
                + "range; LIMIT_REACHED if it has 60 characters.");
        for (int length = 0; length < 60; length += 20) {
            Scene.of(Edges.times(length, "type(104)")).tells("type(49)", length + 1)
                    .refuses("type(31)", -1).refuses("type(127)", -1);
        }
        Scene last = Scene.of("text(" + "h1;".repeat(19) + "h1)").tells("type(59)", 60);
        Scene full = last.after("type(59)").refuses("type(59)", -3).refuses("type(32)", -3);
        full.refuses("type(31)", -1).refuses("type(127)", -1).refuses("type(126)", -3);
        full.changes("play()", 20).tells("count(4)", 20);
        full.after("clearText()").tells("type(59)", 1);
    }

    private static void promise24() {
        Edges.about("Promise 24", "`int clearText()`: Empties the text.");
        Scene typed = Scene.of("text(h1;)", "clearText()").tells("count(12)", 0);
        typed.refuses("fault(0)", -4).changes("play()", 0).tells("count(4)", 0);
        // Nothing old stands behind a shorter text.
        Scene shorter = Scene.of("text(h1;h1;h1;)", "clearText()", "type(104)", "type(50)");
        shorter.tells("fault(#)", 0, FORM).after("type(59)").changes("play()", 1)
                .tells("count(4)", 2);
        Edges.about("Promise 24", "Returns the length it had.");
        Scene.of().keeps("clearText()", 0);
        for (int length = 1; length <= 60; length += length < 59 ? 29 : 1) {
            Scene scene = Scene.of(Edges.times(length, "type(59)")).tells("clearText()", length);
            scene.after("clearText()").tells("clearText()", 0).tells("count(12)", 0);
        }
    }

    private static void promise25() {
        Edges.about("Promise 25", "- `what`: 0: its position; 1: its reason");
        Scene faulty = ready().after("text(h1;p0;)").keeps("fault(0)", 3).keeps("fault(1)", STATE);
        Edges.about("Promise 25",
                "Returns that; INVALID_ARGUMENT if what is out of range; NOT_FOUND if the "
                + "text has no fault (also if it is empty).");
        Edges.refusesBeside(faulty, "fault(#)", 1);
        Scene fine = ready().after("text(h1;)").refuses("fault(0)", -4).refuses("fault(1)", -4);
        Edges.refusesBeside(fine, "fault(#)", 1);
        Scene empty = ready().refuses("fault(0)", -4).refuses("fault(1)", -4);
        Edges.refusesBeside(empty, "fault(#)", 1);
        faulty.after("clearText()").refuses("fault(0)", -4).refuses("fault(1)", -4);
        // What was told about an earlier text is not told about an empty one.
        faulty.after("fault(0)", "clearText()").refuses("fault(0)", -4).refuses("fault(1)", -4);
        faulty.after("fault(1)", "text(h1;)").refuses("fault(0)", -4).refuses("fault(1)", -4);
        // It is asked of the state as it is then.
        Scene played = ready().after("text(r0,0;)", "play()");
        played.tells("fault(#)", 0, STATE).after("undo()").refuses("fault(1)", -4);
        played.after("pass(4)").refuses("fault(0)", -4);
    }

    private static void promise26() {
        Edges.about("Promise 26", "`int play()`: Does all commands of the text, which stays.");
        Scene scene = played(ready(), "r0,0;h2;f0,1000;t0,1;g0,1;", 5);
        scene.tells("mealOf(#, 0)", 3, 2).tells("count(4)", 2).tells("volunteerOf(0, 3)", 1);
        scene.tells("count(12)", 26).tells("fault(#)", 0, STATE).refuses("play()", -2);
        scene.tells("clearText()", 26);
        Scene twice = played(Scene.of(), "h9;", 1).changes("play()", 1).tells("count(4)", 18);
        twice.tells("count(12)", 3);
        Edges.about("Promise 26",
                "Returns how many there are in it; NOT_POSSIBLE if it has a fault.");
        Scene.of().changes("play()", 0);
        played(Scene.of(), "h1;", 1);
        played(Scene.of(), "h1;".repeat(20), 20);
        faulty(ready(), "h9;h9;p0;", 6, STATE);
        faulty(ready(), "r0,0;h0;", 5, ARGUMENT);
        faulty(ready(), "t0,0;g0,1;h9;h", 13, FORM);
    }

    private static void promise26OneChange() {
        Edges.about("Promise 26", "They are one change, also if there are none.");
        Scene none = Scene.of("locker(1, 1)").tells("count(11)", 1);
        none.changes("play()", 0).tells("count(11)", 2).changes("play()", 0).tells("count(11)", 3)
                .tells("undo()", 2);
        Scene many = none.after("text(" + "h1;".repeat(20) + ")").changes("play()", 20);
        many.tells("count(11)", 2).tells("undo()", 1).after("undo()").tells("count(4)", 0);
        many.after("undo()", "undo()").refuses("undo()", -2).refuses("lockerOf(0, 0)", -1);
        none.after("text(h1;h0;)").refuses("play()", -2).tells("count(11)", 1);
        Scene full = none.after("pass(1)", "pass(1)", "pass(1)").tells("count(11)", 4);
        full.changes("play()", 0).tells("count(11)", 4);
    }
}
