/** A test for each sentence of the promises 1 to 12 that names a boundary case. */
final class ChangesEdges {
    private ChangesEdges() {
    }

    static void run() {
        promise1();
        promise2();
        promise3();
        promise4();
        promise5();
        promise6();
        promise7();
        promise7LowestNumber();
        promise8();
        promise9();
        promise10();
        promise11();
        promise12();
        promise12AsItIsThen();
    }

    private static void promise1() {
        Edges.about("Promise 1",
                "`MealLockers()`: Creates a service without anything, at the hour 0.");
        Scene none = Scene.of();
        none.tells("count(#)", 0, 0, 0, 0, 0, 0, 0, 0, 0, 0, 0, 0, 0, 4, 3, 24, 1);
        none.refuses("lockerOf(0, 0)", -1).refuses("mealOf(0, 0)", -1)
                .refuses("personOf(0, 0)", -1);
        none.refuses("volunteerOf(0, 0)", -1).refuses("undo()", -2).refuses("shareBits()", -4);
        none.refuses("move(0)", -4).refuses("fault(0)", -4).keeps("wouldSpoil(99)", 0);
        none.keeps("clearText()", 0).changes("play()", 0);
    }

    private static void promise2() {
        Scene none = Scene.of();
        Edges.about("Promise 2", "- `cells`: 1 to 8");
        Edges.changesWithin(none, "locker(#, 1)", 0, 1, 8);
        Edges.about("Promise 2", "- `cold`: 1: cold; 0: not");
        Edges.changesWithin(none, "locker(8, #)", 0, 0, 1);
        none.changes("locker(8, 0)", 0).tells("lockerOf(0, 1)", 0);
        none.changes("locker(8, 1)", 0).tells("lockerOf(0, 1)", 1);

        Edges.about("Promise 2",
                "Returns its number; INVALID_ARGUMENT if an argument is out of range; "
                + "LIMIT_REACHED if there are 5.");
        Scene scene = none;
        for (int number = 0; number < 5; number++) {
            scene.refuses("locker(0, 0)", -1).refuses("locker(9, 0)", -1);
            scene.refuses("locker(1, -1)", -1).refuses("locker(1, 2)", -1);
            scene = scene.changes("locker(1, 0)", number);
        }
        scene.refuses("locker(1, 0)", -3).refuses("locker(8, 1)", -3).refuses("locker(0, 0)", -1);
        scene.after("undo()").changes("locker(8, 1)", 4).refuses("locker(8, 1)", -3);
    }

    private static void promise3() {
        Scene lockers = Scene.of("locker(1, 1)", "locker(8, 0)");
        Edges.about("Promise 3", "- `locker`: number of the locker");
        Edges.changesWithin(lockers, "meal(#, 9, 0)", 0, 0, 1);
        Edges.about("Promise 3", "- `hours`: 1 to 99: its cold hours");
        Edges.changesWithin(lockers, "meal(0, #, 0)", 0, 1, 99);
        lockers.after("meal(0, 1, 0)", "meal(1, 99, 0)").tells("mealOf(0, 2)", 1)
                .tells("mealOf(1, 2)", 99).changes("pass(1)", 1).tells("mealOf(1, 2)", 97);
        Edges.about("Promise 3", "- `allergens`: the set of its allergens, 0 to 31");
        Edges.changesWithin(lockers, "meal(0, 9, #)", 0, 0, 31);

        Edges.about("Promise 3",
                "Returns its number; INVALID_ARGUMENT if an argument is out of range; "
                + "NOT_POSSIBLE if the locker has no free cell; LIMIT_REACHED if there are 24 "
                + "meals (gone ones count).");
        Scene full = lockers.changes("meal(0, 9, 0)", 0);
        full.refuses("meal(0, 9, 0)", -2).refuses("meal(0, 0, 0)", -1).changes("meal(1, 9, 0)", 1);
        Scene used = full.after("person(0)", "volunteer(0, 1)", "reserve(0, 0)");
        used.refuses("meal(0, 9, 0)", -2);
        used.after("fetch(0, 1000, 0)").changes("meal(0, 9, 0)", 1).refuses("meal(0, 9, 0)", -2);
        used.after("fetch(0, 1000, 1)").changes("meal(0, 9, 0)", 1).refuses("meal(0, 9, 0)", -2);
        used.after("pass(8)").refuses("meal(0, 9, 0)", -2);
        used.after("pass(9)").changes("meal(0, 9, 0)", 1).refuses("meal(0, 9, 0)", -2);
        used.after("pass(4)", "take(0, 0)").changes("meal(0, 9, 0)", 1).refuses("put(0)", -2);

        Scene gone = lockers.after("person(0)");
        for (int meal = 0; meal < 23; meal++) {
            gone = gone.after("meal(0, 1, 0)",
                    meal % 2 == 0 ? "pass(1)" : "reserve(0, " + meal + ")");
            if (meal % 2 == 1) {
                gone = gone.after("fetch(0, " + Edges.code(meal, (meal + 1) / 2, 0) + ", 0)");
            }
        }
        gone.tells("count(1)", 23).tells("count(5)", 0).tells("count(7)", 11).tells("count(9)", 12);
        Scene last = gone.changes("meal(1, 9, 0)", 23);
        last.refuses("meal(0, 9, 0)", -3).refuses("meal(1, 9, 0)", -3).refuses("meal(2, 9, 0)", -1);
        last.after("pass(9)").tells("count(5)", 0).refuses("meal(0, 9, 0)", -3);
        last.after("undo()").changes("meal(0, 9, 0)", 23);
    }

    private static void promise4() {
        Scene none = Scene.of();
        Edges.about("Promise 4", "- `allergies`: the set of allergies, 0 to 31");
        Edges.changesWithin(none, "person(#)", 0, 0, 31);
        none.changes("person(31)", 0).tells("personOf(0, 0)", 31);

        Edges.about("Promise 4",
                "Returns the number of the person; INVALID_ARGUMENT if allergies is out of "
                + "range; LIMIT_REACHED if there are 8.");
        Scene scene = none;
        for (int number = 0; number < 8; number++) {
            scene.refuses("person(-1)", -1).refuses("person(32)", -1);
            scene = scene.changes("person(" + number + ")", number);
        }
        scene.refuses("person(0)", -3).refuses("person(31)", -3).refuses("person(32)", -1);
        scene.tells("personOf(7, 0)", 7).after("undo()").changes("person(31)", 7)
                .refuses("person(31)", -3);
    }

    private static void promise5() {
        Scene lockers = Scene.of(Edges.times(5, "locker(1, 1)"));
        Edges.about("Promise 5", "- `locker`: number of the locker where the volunteer is");
        Edges.changesWithin(lockers, "volunteer(#, 1)", 0, 0, 4);
        lockers.changes("volunteer(4, 1)", 0).tells("volunteerOf(0, 1)", 4);
        Edges.about("Promise 5", "- `room`: 1 to 4");
        Edges.changesWithin(lockers, "volunteer(0, #)", 0, 1, 4);

        Edges.about("Promise 5",
                "Returns the number of the volunteer; INVALID_ARGUMENT if an argument is out "
                + "of range; LIMIT_REACHED if there are 3.");
        Scene.of().refuses("volunteer(0, 1)", -1);
        Scene scene = lockers;
        for (int number = 0; number < 3; number++) {
            scene.refuses("volunteer(5, 1)", -1).refuses("volunteer(0, 0)", -1);
            scene.refuses("volunteer(-1, 1)", -1).refuses("volunteer(0, 5)", -1);
            scene = scene.changes("volunteer(" + number + ", 2)", number);
        }
        scene.refuses("volunteer(0, 1)", -3).refuses("volunteer(0, 5)", -1);
        scene.after("undo()").changes("volunteer(4, 4)", 2).refuses("volunteer(4, 4)", -3);
    }

    private static void promise6() {
        Scene scene = Scene.of("locker(8, 1)", "locker(8, 1)", "volunteer(0, 1)", "person(0)",
                "person(6)", "meal(0, 50, 0)", "meal(1, 50, 2)");
        Edges.about("Promise 6", "- `person`: number of the person");
        Edges.refusesBeside(scene, "reserve(#, 0)", 1);
        scene.changes("reserve(0, 0)", 1000);
        scene.changes("reserve(1, 0)", 1007);
        Edges.about("Promise 6", "- `meal`: number of the meal");
        Edges.refusesBeside(scene, "reserve(0, #)", 1);
        scene.changes("reserve(0, 1)", 1037);

        Edges.about("Promise 6",
                "Returns the code; INVALID_ARGUMENT if an argument is out of range; "
                + "NOT_POSSIBLE if it cannot be reserved as told.");
        scene.changes("reserve(0, 1)", 1037).tells("mealOf(1, #)", 1, 1, 50, 2, 1037, 0, -4)
                .tells("personOf(0, #)", 0, 0, 0, 1, 0, 0).tells("count(10)", 1);
        scene.refuses("reserve(1, 1)", -2);
        scene.after("take(0, 0)").refuses("reserve(0, 0)", -2);
        scene.after("take(0, 0)", "go(0, 1)").refuses("reserve(0, 0)", -2).after("pass(1)")
                .changes("reserve(0, 0)", 1011);
        scene.after("pass(49)").changes("reserve(0, 0)", 1000 + 11 * 49);
        scene.after("pass(50)").refuses("reserve(0, 0)", -2);
        Scene reserved = scene.after("reserve(0, 0)");
        reserved.refuses("reserve(0, 0)", -2).refuses("reserve(0, 1)", -2)
                .refuses("reserve(1, 0)", -2);
        reserved.refuses("reserve(2, 1)", -1).refuses("reserve(0, 2)", -1);
        reserved.after("fetch(0, 1000, 0)").refuses("reserve(1, 0)", -2)
                .refuses("reserve(0, 0)", -2)
                .changes("reserve(0, 1)", 1037);
        reserved.after("fetch(0, 1000, 1)").refuses("reserve(1, 0)", -2)
                .refuses("reserve(0, 0)", -2)
                .changes("reserve(0, 1)", 1037);
        Scene.of("locker(1, 1)", "meal(0, 9, 0)").refuses("reserve(0, 0)", -1);
        Scene.of("person(0)").refuses("reserve(0, 0)", -1);
    }

    private static void promise7() {
        Scene scene = Scene.of("locker(8, 1)", "locker(8, 1)", "person(0)", "meal(1, 50, 0)",
                "reserve(0, 0)");
        Edges.about("Promise 7", "- `locker`: number of the locker");
        Edges.refusesBeside(scene, "fetch(#, 1000, 0)", 1);
        scene.refuses("fetch(0, 1000, 0)", -2).changes("fetch(1, 1000, 0)", 0);
        Edges.about("Promise 7", "- `code`: 1000 to 9999");
        Edges.refusesEach(scene, "fetch(1, #, 0)", -1, "999", "10000", "0", "1", "-1000", "66536");
        Edges.refusesEach(scene, "fetch(1, #, 0)", -1, Edges.FAR_OUT);
        scene.changes("fetch(1, 1000, 0)", 0);
        scene.refuses("fetch(1, 1001, 0)", -2).refuses("fetch(1, 9999, 0)", -2);
        // 37 * 3 + 11 * 808 = 8999.
        Scene most = Scene.of(Edges.times(8, "pass(99)")).after("pass(16)", "locker(8, 1)",
                "person(0)").after(Edges.times(4, "meal(0, 9, 0)")).after("reserve(0, 3)");
        most.tells("mealOf(3, 4)", 9999).changes("fetch(0, 9999, 0)", 3);
        most.refuses("fetch(0, 1000, 0)", -2).refuses("fetch(0, 10000, 0)", -1);
        Edges.about("Promise 7", "- `refused`: 0: fetched; 1: refused");
        Edges.changesWithin(scene, "fetch(1, 1000, #)", 0, 0, 1);
        scene.after("fetch(1, 1000, 0)").tells("mealOf(0, 0)", 3).tells("personOf(0, 4)", 1);
        scene.after("fetch(1, 1000, 1)").tells("mealOf(0, 0)", 4).tells("personOf(0, 4)", 0);

        Edges.about("Promise 7",
                "Returns the number of the meal; INVALID_ARGUMENT if an argument is out of "
                + "range; NOT_POSSIBLE if no reserved meal in this locker has this code.");
        Scene.of("locker(8, 1)").refuses("fetch(0, 1000, 0)", -2).refuses("fetch(0, 999, 0)", -1);
        scene.after("fetch(1, 1000, 0)").refuses("fetch(1, 1000, 0)", -2)
                .refuses("fetch(1, 1000, 1)", -2);
        scene.after("fetch(1, 1000, 1)").refuses("fetch(1, 1000, 0)", -2);
        scene.after("pass(3)").changes("fetch(1, 1000, 0)", 0);
        scene.after("pass(4)").refuses("fetch(1, 1000, 0)", -2);
        scene.after("set(0, 48)", "pass(47)").changes("fetch(1, 1000, 1)", 0);
        scene.after("set(0, 48)", "pass(48)").refuses("fetch(1, 1000, 1)", -2);
        Scene spoils = Scene.of("locker(1, 1)", "person(0)", "meal(0, 2, 0)", "reserve(0, 0)");
        spoils.after("pass(1)").changes("fetch(0, 1000, 0)", 0);
        spoils.after("pass(2)").refuses("fetch(0, 1000, 0)", -2);
    }

    private static void promise7LowestNumber() {
        Edges.about("Promise 7",
                "(Of several meals with this code in the locker it is the one with the "
                + "lowest number.)");
        // 37 * 1 + 7 * 1 = 11 * 4: meal 1 of person 1 at the hour 0, and meal 0 of person 0 at 4.
        Scene scene = Scene.of("set(0, 48)", "locker(2, 1)", "locker(1, 1)", "person(0)",
                "person(0)", "volunteer(0, 1)", "meal(0, 50, 0)", "meal(0, 50, 0)");
        Scene same = scene.after("reserve(1, 1)", "pass(4)", "reserve(0, 0)");
        same.tells("mealOf(#, 4)", 1044, 1044);
        same.changes("fetch(0, 1044, 0)", 0).changes("fetch(0, 1044, 1)", 1)
                .refuses("fetch(0, 1044, 0)", -2);
        Scene apart = scene.after("take(0, 0)", "go(0, 1)", "reserve(1, 1)", "pass(4)",
                "reserve(0, 0)");
        apart.tells("mealOf(#, 4)", 1044, 1044).tells("mealOf(0, 1)", 1);
        apart.changes("fetch(0, 1044, 0)", 1).changes("fetch(1, 1044, 0)", 0);
    }

    private static void promise8() {
        Scene scene = Scene.of("locker(8, 1)", "locker(8, 1)", "person(0)", "volunteer(0, 1)",
                "volunteer(0, 4)", "meal(1, 50, 0)").after(Edges.times(6, "meal(0, 50, 0)"));
        Edges.about("Promise 8", "- `volunteer`: number of the volunteer");
        Edges.refusesBeside(scene, "take(#, 1)", 1);
        scene.changes("take(0, 1)", 1);
        scene.changes("take(1, 1)", 1);
        Edges.about("Promise 8", "- `meal`: number of the meal");
        Edges.refusesBeside(scene, "take(0, #)", 6);
        scene.changes("take(0, 6)", 1);

        Edges.about("Promise 8",
                "Returns how many meals the volunteer has then; INVALID_ARGUMENT if an "
                + "argument is out of range; NOT_POSSIBLE if the volunteer is under way or has "
                + "no room, or the meal is not in the locker where the volunteer is, or is "
                + "reserved.");
        Scene one = scene.changes("take(0, 1)", 1).refuses("take(0, 2)", -2)
                .refuses("take(0, 7)", -1);
        one.refuses("take(1, 1)", -2).refuses("take(0, 1)", -2);
        Scene four = scene.changes("take(1, 1)", 1).changes("take(1, 2)", 2)
                .changes("take(1, 3)", 3)
                .changes("take(1, 4)", 4);
        four.tells("volunteerOf(1, 2)", 2 + 4 + 8 + 16).tells("lockerOf(0, 7)", 4);
        four.refuses("take(1, 5)", -2).refuses("take(1, 7)", -1);
        four.after("put(1)").changes("take(1, 5)", 1);
        scene.refuses("take(0, 0)", -2).refuses("take(1, 0)", -2);
        Scene way = scene.after("set(3, 2)", "go(0, 1)");
        way.refuses("take(0, 0)", -2).refuses("take(0, 1)", -2);
        way.after("pass(1)").refuses("take(0, 0)", -2).refuses("take(0, 1)", -2);
        way.after("pass(2)").refuses("take(0, 1)", -2).changes("take(0, 0)", 1);
        scene.after("reserve(0, 1)").refuses("take(0, 1)", -2).changes("take(0, 2)", 1);
        scene.after("reserve(0, 1)", "fetch(0, 1037, 0)").refuses("take(0, 1)", -2);
        scene.after("reserve(0, 1)", "fetch(0, 1037, 1)").refuses("take(0, 1)", -2);
        scene.after("pass(49)").changes("take(0, 1)", 1);
        scene.after("pass(50)").refuses("take(0, 1)", -2);
    }

    private static void promise9() {
        Scene scene = Scene.of(Edges.times(4, "locker(2, 1)")).after("volunteer(0, 1)",
                "volunteer(3, 1)", "pass(7)");
        Edges.about("Promise 9", "- `volunteer`: number of the volunteer");
        Edges.refusesBeside(scene, "go(#, 1)", 1);
        Edges.about("Promise 9", "- `locker`: number of the locker");
        Edges.refusesBeside(scene, "go(0, #)", 3);
        scene.changes("go(0, 3)", 10);
        scene.changes("go(1, 0)", 10);

        Edges.about("Promise 9",
                "Returns the hour of arriving; INVALID_ARGUMENT if an argument is out of "
                + "range; NOT_POSSIBLE if the volunteer is under way, or is there.");
        scene.refuses("go(0, 0)", -2).refuses("go(1, 3)", -2);
        Scene near = scene.changes("go(0, 1)", 8);
        near.refuses("go(0, 0)", -2).refuses("go(0, 1)", -2).refuses("go(0, 2)", -2);
        near.refuses("go(0, 4)", -1).tells("volunteerOf(0, #)", 1, 1, 0, 1, 0);
        near.after("pass(1)").refuses("go(0, 1)", -2).changes("go(0, 0)", 9);
        Scene far = scene.after("set(3, 9)").changes("go(1, 0)", 34);
        far.after("pass(26)").refuses("go(1, 3)", -2).tells("volunteerOf(1, #)", 1, 0, 0, 1, 26);
        far.after("pass(27)").changes("go(1, 3)", 61);
        // The way may lead beyond the last hour.
        Scene late = Scene.of(Edges.times(50, "pass(99)")).after("pass(50)", "locker(1, 1)",
                "locker(1, 1)", "volunteer(0, 1)");
        late.changes("go(0, 1)", 5001).refuses("pass(1)", -3).refuses("go(0, 0)", -2);
    }

    private static void promise10() {
        Scene scene = Scene.of("locker(4, 1)", "locker(1, 1)", "volunteer(0, 4)", "volunteer(0, 4)")
                .after(Edges.times(4, "meal(0, 50, 0)")).after("take(1, 0)", "take(1, 3)");
        Edges.about("Promise 10", "- `volunteer`: number of the volunteer");
        Edges.refusesBeside(scene, "put(#)", 1);

        Edges.about("Promise 10",
                "Returns how many were put in; INVALID_ARGUMENT; NOT_POSSIBLE if the "
                + "volunteer is under way, or none could be put in.");
        scene.refuses("put(0)", -2);
        scene.changes("put(1)", 2).tells("lockerOf(0, 2)", 15).tells("lockerOf(0, 4)", 2)
                .refuses("put(1)", -2);
        Scene oneCell = scene.after("meal(0, 50, 0)");
        oneCell.changes("put(1)", 1).tells("lockerOf(0, 2)", 1 + 2 + 4 + 16)
                .tells("volunteerOf(1, 2)", 8).refuses("put(1)", -2);
        oneCell.after("meal(0, 50, 0)").refuses("put(1)", -2);
        Scene all = scene.after("take(1, 1)", "take(1, 2)");
        all.changes("put(1)", 4).tells("volunteerOf(1, 2)", 0);
        Scene way = scene.after("go(1, 1)").refuses("put(1)", -2);
        Scene there = way.after("pass(1)").tells("lockerOf(1, 2)", 1).tells("volunteerOf(1, 2)", 8);
        there.refuses("put(1)", -2);
        there.after("go(1, 0)").refuses("put(1)", -2).after("pass(1)").refuses("put(1)", -2)
                .tells("lockerOf(0, 2)", 2 + 4 + 8);
        Scene.of().refuses("put(0)", -1);
    }

    private static void promise11() {
        Scene scene = Scene.of("locker(4, 1)", "meal(0, 99, 0)", "meal(0, 98, 0)", "meal(0, 1, 0)");
        Edges.about("Promise 11", "- `hours`: 1 to 99");
        scene.changes("pass(1)", 1).tells("count(4)", 1);
        scene.changes("pass(98)", 2).tells("count(4)", 98);
        scene.changes("pass(99)", 3).tells("count(4)", 99);
        Edges.refusesEach(scene, "pass(#)", -1, "0", "100");
        Edges.refusesEach(scene, "pass(#)", -1, Edges.FAR_OUT);

        Edges.about("Promise 11",
                "Returns how many meals spoil in them; INVALID_ARGUMENT if hours is out of "
                + "range; LIMIT_REACHED if the time would be above 5000.");
        Scene.of().changes("pass(99)", 0);
        scene.after("pass(1)").changes("pass(96)", 0).changes("pass(1)", 1).changes("pass(1)", 1)
                .changes("pass(1)", 0);
        Scene.of(Edges.times(3, "locker(8, 0)")).after(Edges.times(8, "meal(0, 1, 0)"))
                .after(Edges.times(8, "meal(1, 2, 0)")).after(Edges.times(8, "meal(2, 3, 0)"))
                .changes("pass(2)", 24);
        Scene late = Scene.of(Edges.times(50, "pass(99)")).after("locker(1, 1)", "meal(0, 99, 0)");
        late.changes("pass(50)", 0).tells("count(4)", 5000);
        late.refuses("pass(51)", -3).refuses("pass(99)", -3).refuses("pass(100)", -1);
        late.refuses("pass(0)", -1);
        Scene more = late.after("pass(49)").tells("count(4)", 4999);
        more.refuses("pass(2)", -3).changes("pass(1)", 0).refuses("pass(1)", -3)
                .refuses("pass(99)", -3).refuses("pass(0)", -1).refuses("pass(100)", -1);
        Scene.of(Edges.times(49, "pass(99)")).after("pass(50)").changes("pass(99)", 0)
                .tells("count(4)", 5000);
        Scene.of(Edges.times(49, "pass(99)")).after("pass(51)").refuses("pass(99)", -3);
    }

    private static void promise12() {
        Scene none = Scene.of();
        int[] first = {4, 3, 24, 1};
        int[] most = {48, 9, 99, 9};
        Edges.about("Promise 12", "- `what`: 0 to 3");
        Edges.refusesBeside(none, "set(#, 1)", 3);
        none.changes("set(0, 1)", 4).tells("count(13)", 1);
        none.changes("set(3, 2)", 1).tells("count(16)", 2);
        Edges.about("Promise 12", "- `value`: a value in its range");
        for (int what = 0; what < 4; what++) {
            Edges.changesWithin(none, "set(" + what + ", #)", first[what], 1, most[what]);
        }
        Edges.about("Promise 12",
                "Returns what it was; INVALID_ARGUMENT if an argument is out of range.");
        for (int what = 0; what < 4; what++) {
            Scene set = none.changes("set(" + what + ", " + most[what] + ")", first[what]);
            set.changes("set(" + what + ", " + most[what] + ")", most[what]);
            set.refuses("set(" + what + ", 0)", -1);
            set.refuses("set(" + what + ", " + (most[what] + 1) + ")", -1);
            set.changes("set(" + what + ", 1)", most[what]).changes("set(" + what + ", 1)", 1);
        }
        none.refuses("set(-1, 0)", -1).refuses("set(4, 0)", -1).refuses("set(1, 48)", -1);
        none.refuses("set(0, 99)", -1).refuses("set(3, 99)", -1).refuses("set(3, 48)", -1);
    }

    private static void promise12AsItIsThen() {
        Edges.about("Promise 12",
                "(Reservations lapse by the setting as it is then; volunteers who are under "
                + "way arrive as told.)");
        Scene reserved = Scene.of("locker(1, 1)", "meal(0, 99, 0)", "person(0)", "reserve(0, 0)",
                "pass(3)");
        reserved.after("set(0, 5)", "pass(1)").tells("mealOf(0, 0)", 1).after("pass(1)")
                .tells("mealOf(0, 0)", 0);
        reserved.after("set(0, 48)", "pass(44)").tells("mealOf(0, 0)", 1).after("pass(1)")
                .tells("mealOf(0, 0)", 0);
        reserved.after("set(0, 3)").tells("mealOf(0, 0)", 1).changes("fetch(0, 1000, 0)", 0);
        reserved.after("set(0, 3)", "pass(1)").tells("mealOf(0, 0)", 0);
        reserved.after("set(0, 1)", "set(0, 5)", "pass(1)").tells("mealOf(0, 0)", 1);
        reserved.after("set(0, 3)", "pass(1)").tells("personOf(0, 1)", 1);

        Scene way = Scene.of("locker(1, 1)", "locker(1, 1)", "volunteer(0, 1)", "set(3, 3)",
                "go(0, 1)");
        way.after("set(3, 9)").tells("volunteerOf(0, 3)", 3).after("pass(2)")
                .refuses("go(0, 0)", -2)
                .after("pass(1)").tells("volunteerOf(0, 3)", 0).changes("go(0, 0)", 12);
        way.after("set(3, 1)").tells("volunteerOf(0, 3)", 3).after("pass(2)")
                .refuses("go(0, 0)", -2)
                .after("pass(1)").tells("volunteerOf(0, 3)", 0).changes("go(0, 0)", 4);
    }
}
