/** A test for each sentence of the promises 13 to 21 that names a boundary case. */
final class LooksEdges {
    private LooksEdges() {
    }

    static void run() {
        promise13();
        promise14();
        promise15();
        promise16();
        promise17();
        promise18();
        promise19();
        promise19Arriving();
        promise20();
        promise20Ties();
        promise21();
    }

    private static void promise13() {
        Scene busy = ErrorsEdges.busy();
        Edges.about("Promise 13", "- `meal`: number of the meal");
        Edges.refusesBeside(busy, "mealOf(#, 2)", 4);
        busy.tells("mealOf(#, 2)", 39, 39, 28, 28, 18);
        Edges.about("Promise 13",
                "- `what`: 0: 0 if it is in a locker, 1 if it is reserved there, 2 if it is "
                + "carried, 3 if it was fetched, 4 if it was refused, 5 if it spoilt; 1: its "
                + "locker, or the one in which it was last; 2: its cold hours; 3: its "
                + "allergens; 4: its code; 5: the person who has reserved it now, or fetched "
                + "or refused it; 6: the volunteer who carries it");
        Edges.refusesEach(busy, "mealOf(0, #)", -1, Edges.FAR_OUT);
        Edges.refusesEach(busy, "mealOf(4, #)", -1, "7", "8", "-2");
        busy.tells("mealOf(0, #)", 1, 0, 39, 0, 1011, 0, -4);
        busy.tells("mealOf(1, #)", 2, 0, 39, 2, -4, -4, 0);
        busy.tells("mealOf(2, #)", 0, 1, 28, 1, -4, -4, -4);
        busy.tells("mealOf(3, #)", 2, 1, 28, 0, -4, -4, 1);
        busy.tells("mealOf(4, #)", 1, 1, 18, 0, 1173, 2, -4);
        Scene later = busy.after("fetch(0, 1011, 0)", "fetch(1, 1173, 1)", "pass(14)");
        later.tells("mealOf(0, #)", 3, 0, 39, 0, -4, 0, -4);
        later.tells("mealOf(1, #)", 0, 2, 23, 2, -4, -4, -4);
        later.tells("mealOf(2, #)", 5, 1, 0, 1, -4, -4, -4);
        later.tells("mealOf(3, #)", 5, 1, 0, 0, -4, -4, -4);
        later.tells("mealOf(4, #)", 4, 1, 18, 0, -4, 2, -4);

        Edges.about("Promise 13",
                "Returns the number; INVALID_ARGUMENT if an argument is out of range; "
                + "NOT_FOUND for 4 if it is not reserved, for 5 if there is no such person, "
                + "for 6 if it is not carried.");
        Scene in = Scene.of("locker(2, 1)", "person(0)", "volunteer(0, 1)", "meal(0, 9, 0)");
        in.refuses("mealOf(0, 4)", -4).refuses("mealOf(0, 5)", -4).refuses("mealOf(0, 6)", -4);
        Scene reserved = in.after("reserve(0, 0)");
        reserved.keeps("mealOf(0, 4)", 1000).keeps("mealOf(0, 5)", 0).refuses("mealOf(0, 6)", -4);
        Scene lapsed = reserved.after("pass(4)");
        lapsed.refuses("mealOf(0, 4)", -4).refuses("mealOf(0, 5)", -4).refuses("mealOf(0, 6)", -4);
        for (int refused = 0; refused <= 1; refused++) {
            Scene gone = reserved.after("fetch(0, 1000, " + refused + ")");
            gone.refuses("mealOf(0, 4)", -4).keeps("mealOf(0, 5)", 0).refuses("mealOf(0, 6)", -4);
        }
        Scene carried = lapsed.after("take(0, 0)");
        carried.refuses("mealOf(0, 4)", -4).refuses("mealOf(0, 5)", -4).keeps("mealOf(0, 6)", 0);
        Scene back = carried.after("put(0)");
        back.refuses("mealOf(0, 5)", -4).refuses("mealOf(0, 6)", -4);
        Scene[] spoilt = {in.after("pass(9)"), carried.after("pass(3)"),
            in.after("pass(8)", "reserve(0, 0)", "pass(1)")};
        for (Scene scene : spoilt) {
            scene.refuses("mealOf(0, 4)", -4).refuses("mealOf(0, 5)", -4)
                    .refuses("mealOf(0, 6)", -4);
            scene.refuses("mealOf(1, 4)", -1).refuses("mealOf(0, 7)", -1).tells("mealOf(0, 0)", 5);
        }
    }

    private static void promise14() {
        Scene busy = ErrorsEdges.busy();
        Edges.about("Promise 14", "- `locker`: number of the locker");
        Edges.refusesBeside(busy, "lockerOf(#, 2)", 2);
        busy.tells("lockerOf(#, 2)", 1, 4 + 16, 0);
        Edges.about("Promise 14",
                "- `what`: 0: its cells; 1: 1 if it is cold, otherwise 0; 2: the meals in "
                + "it, as a set; 3: brought to it so far; 4: put into it by volunteers so far; "
                + "5: fetched so far; 6: refused so far; 7: taken out of it by volunteers so "
                + "far; 8: spoilt in it so far");
        Scene later = busy.after("fetch(0, 1011, 0)", "fetch(1, 1173, 1)", "put(1)", "pass(13)",
                "meal(0, 9, 0)", "pass(1)");
        later.tells("lockerOf(0, #)", 2, 1, 32, 3, 0, 1, 0, 1, 0);
        later.tells("lockerOf(1, #)", 2, 0, 0, 3, 1, 0, 1, 1, 2);
        later.tells("lockerOf(2, #)", 1, 1, 2, 0, 1, 0, 0, 0, 0);
        Edges.about("Promise 14",
                "Returns the number; INVALID_ARGUMENT if an argument is out of range.");
        Edges.refusesEach(busy, "lockerOf(0, #)", -1, Edges.FAR_OUT);
        Edges.refusesEach(busy, "lockerOf(2, #)", -1, "9", "10", "-2");
        busy.keeps("lockerOf(2, 0)", 1).keeps("lockerOf(2, 8)", 0).refuses("lockerOf(3, 9)", -1);
        Scene.of().refuses("lockerOf(0, 0)", -1);
    }

    private static void promise15() {
        Scene busy = ErrorsEdges.busy();
        Edges.about("Promise 15", "- `person`: number of the person");
        Edges.refusesBeside(busy, "personOf(#, 0)", 2);
        busy.tells("personOf(#, 0)", 1, 2, 0);
        Edges.about("Promise 15",
                "- `what`: 0: the allergies; 1: the strikes; 2: the hours for which the "
                + "person is barred from now on; 3: the meal that is reserved; 4: meals "
                + "fetched so far; 5: reservations that lapsed so far");
        Edges.refusesEach(busy, "personOf(2, #)", -1, Edges.FAR_OUT);
        Edges.refusesEach(busy, "personOf(2, #)", -1, "6", "7", "-2");
        Scene later = busy.after("set(1, 1)", "fetch(1, 1173, 0)", "pass(4)");
        later.tells("personOf(0, #)", 1, 0, 30, -4, 0, 1);
        later.tells("personOf(1, #)", 2, 0, 0, -4, 0, 0);
        later.tells("personOf(2, #)", 0, 0, 0, -4, 1, 0);
        later.after("pass(1)").tells("personOf(0, 2)", 29).after("pass(28)")
                .tells("personOf(0, 2)", 1)
                .after("pass(1)").tells("personOf(0, 2)", 0).after("pass(1)")
                .tells("personOf(0, 2)", 0);

        Edges.about("Promise 15",
                "Returns the number; INVALID_ARGUMENT if an argument is out of range; "
                + "NOT_FOUND for 3 if there is none.");
        Scene none = Scene.of("locker(1, 1)", "person(0)", "meal(0, 9, 0)");
        none.refuses("personOf(0, 3)", -4).refuses("personOf(1, 3)", -1);
        Scene reserved = none.after("reserve(0, 0)").keeps("personOf(0, 3)", 0);
        reserved.after("pass(3)").keeps("personOf(0, 3)", 0).after("pass(1)")
                .refuses("personOf(0, 3)", -4);
        reserved.after("fetch(0, 1000, 0)").refuses("personOf(0, 3)", -4);
        reserved.after("fetch(0, 1000, 1)").refuses("personOf(0, 3)", -4);
        reserved.after("set(0, 48)", "pass(9)").refuses("personOf(0, 3)", -4);
        reserved.after("undo()").refuses("personOf(0, 3)", -4);
    }

    private static void promise16() {
        Scene busy = ErrorsEdges.busy();
        Edges.about("Promise 16", "- `volunteer`: number of the volunteer");
        Edges.refusesBeside(busy, "volunteerOf(#, 0)", 1);
        busy.tells("volunteerOf(#, 0)", 2, 1);
        Edges.about("Promise 16",
                "- `what`: 0: the room; 1: the locker where the volunteer is, or to which "
                + "the way leads; 2: the meals, as a set; 3: the hours of the way that are "
                + "left, 0 at a locker; 4: hours on the way so far (hour by hour)");
        busy.tells("volunteerOf(0, #)", 2, 2, 2, 2, 0).tells("volunteerOf(1, #)", 1, 1, 8, 0, 0);
        busy.after("pass(1)").tells("volunteerOf(0, #)", 2, 2, 2, 1, 1);
        Scene there = busy.after("pass(2)").tells("volunteerOf(0, #)", 2, 2, 0, 0, 2);
        there.after("pass(9)").tells("volunteerOf(0, #)", 2, 2, 0, 0, 2);
        there.after("go(0, 1)").tells("volunteerOf(0, #)", 2, 1, 0, 1, 2).after("pass(1)")
                .tells("volunteerOf(0, #)", 2, 1, 0, 0, 3);
        Edges.about("Promise 16",
                "Returns the number; INVALID_ARGUMENT if an argument is out of range.");
        Edges.refusesEach(busy, "volunteerOf(0, #)", -1, Edges.FAR_OUT);
        Edges.refusesEach(busy, "volunteerOf(1, #)", -1, "5", "6", "-2");
        busy.keeps("volunteerOf(1, 0)", 1).keeps("volunteerOf(1, 4)", 0);
        busy.refuses("volunteerOf(2, 5)", -1);
        Scene.of("locker(1, 1)").refuses("volunteerOf(0, 0)", -1);
    }

    private static void promise17() {
        Edges.about("Promise 17",
                "- `what`: 0: lockers; 1: meals so far; 2: people; 3: volunteers; 4: the "
                + "time; 5: meals in lockers; 6: carried ones; 7: fetched so far; 8: refused "
                + "so far; 9: spoilt so far; 10: reservations now; 11: states in the history; "
                + "12: the length of the text; 13 to 16: the settings 0 to 3");
        Scene busy = ErrorsEdges.busy();
        busy.tells("count(#)", 3, 5, 3, 2, 1, 3, 2, 0, 0, 0, 2, 4, 7, 4, 3, 30, 1);
        Scene later = busy.after("fetch(0, 1011, 0)", "fetch(1, 1173, 1)", "pass(14)", "undo()",
                "set(0, 48)", "set(1, 9)", "set(2, 99)", "set(3, 9)", "clearText()", "undo()");
        later.tells("count(#)", 3, 5, 3, 2, 1, 1, 2, 1, 1, 0, 0, 3, 0, 48, 9, 99, 1);
        later.after("pass(14)")
                .tells("count(#)", 3, 5, 3, 2, 15, 1, 0, 1, 1, 2, 0, 4, 0, 48, 9, 99, 1);
        Edges.about("Promise 17",
                "Returns the number; INVALID_ARGUMENT if what is out of range.");
        Edges.refusesBeside(busy, "count(#)", 16);
        Edges.refusesBeside(Scene.of(), "count(#)", 16);
        busy.keeps("count(0)", 3).keeps("count(16)", 1);
    }

    private static void promise18() {
        Edges.about("Promise 18",
                "`int advice(int person)`: Tells which meal a person should take: of those "
                + "that could be reserved now (whether the person is barred, or has a "
                + "reservation, is not looked at) the one with the fewest hours until it "
                + "spoils if it stays where it is, of several the lowest number.");
        // In the cold a meal has as many hours as cold hours; elsewhere half of them, rounded up.
        int[][] cases = {{5, 9, 0}, {5, 10, 0}, {5, 8, 1}, {5, 11, 0}, {1, 1, 0}, {1, 2, 0},
            {2, 2, 1}, {2, 1, 1}, {50, 99, 0}, {50, 98, 1}, {99, 99, 1}, {49, 99, 0}};
        for (int[] one : cases) {
            Scene.of("locker(8, 1)", "locker(8, 0)", "person(0)", "meal(0, " + one[0] + ", 0)",
                    "meal(1, " + one[1] + ", 0)").tells("advice(0)", one[2]);
            Scene.of("locker(8, 1)", "locker(8, 0)", "person(0)", "meal(1, " + one[1] + ", 0)",
                    "meal(0, " + one[0] + ", 0)").tells("advice(0)", turned(one));
        }
        Scene scene = Scene.of("locker(8, 1)", "locker(8, 0)", "person(2)", "person(0)",
                "volunteer(0, 4)", "meal(0, 20, 0)", "meal(0, 12, 0)", "meal(0, 12, 0)",
                "meal(0, 5, 2)");
        scene.tells("advice(0)", 1).tells("advice(1)", 3);
        scene.after("reserve(1, 1)").tells("advice(0)", 2).tells("advice(1)", 3);
        scene.after("take(0, 1)").tells("advice(0)", 2).after("put(0)").tells("advice(0)", 1);
        scene.after("reserve(0, 2)").tells("advice(0)", 1);
        scene.after("set(0, 1)", "set(1, 1)", "reserve(0, 2)", "pass(1)")
                .tells("personOf(0, 2)", 24)
                .keeps("advice(0)", 1);
        scene.after("pass(5)").tells("advice(1)", 1);

        Edges.about("Promise 18", "- `person`: number of the person");
        Edges.refusesBeside(scene, "advice(#)", 1);
        scene.keeps("advice(0)", 1).keeps("advice(1)", 3);
        Edges.about("Promise 18",
                "Returns the number of the meal; INVALID_ARGUMENT; NOT_FOUND if there is "
                + "none.");
        Scene.of().refuses("advice(0)", -1);
        Scene none = Scene.of("person(31)", "locker(2, 1)", "volunteer(0, 1)")
                .refuses("advice(0)", -4);
        none.after("meal(0, 9, 16)").refuses("advice(0)", -4).after("meal(0, 9, 0)")
                .keeps("advice(0)", 1);
        Scene one = none.after("meal(0, 9, 0)").keeps("advice(0)", 0).refuses("advice(1)", -1);
        one.after("reserve(0, 0)").refuses("advice(0)", -4).after("pass(4)").keeps("advice(0)", 0);
        one.after("take(0, 0)").refuses("advice(0)", -4);
        one.after("pass(8)").keeps("advice(0)", 0).after("pass(1)").refuses("advice(0)", -4);
    }

    /** The answer when both meals change their numbers; with as many hours the lowest stays 0. */
    private static int turned(int[] one) {
        int elsewhere = (one[1] + 1) / 2;
        return one[0] < elsewhere ? 1 : 0;
    }

    private static void promise19() {
        Edges.about("Promise 19", "- `hours`: 1 to 99");
        Scene scene = Scene.of("locker(4, 1)", "locker(4, 0)", "meal(0, 99, 0)", "meal(0, 98, 0)",
                "meal(0, 1, 0)", "meal(1, 2, 0)", "meal(1, 3, 0)", "meal(1, 99, 0)");
        scene.keeps("wouldSpoil(1)", 4 + 8).keeps("wouldSpoil(2)", 4 + 8 + 16);
        scene.keeps("wouldSpoil(49)", 28).keeps("wouldSpoil(50)", 28 + 32);
        scene.keeps("wouldSpoil(97)", 60).keeps("wouldSpoil(98)", 62).keeps("wouldSpoil(99)", 63);
        Edges.refusesEach(scene, "wouldSpoil(#)", -1, "0", "100");
        Edges.refusesEach(scene, "wouldSpoil(#)", -1, Edges.FAR_OUT);
        Scene.of().keeps("wouldSpoil(1)", 0).keeps("wouldSpoil(99)", 0).refuses("wouldSpoil(0)", -1)
                .refuses("wouldSpoil(100)", -1);

        Edges.about("Promise 19",
                "Returns the set of meals (also beyond the hour 5000); INVALID_ARGUMENT if "
                + "hours is out of range.");
        Scene late = Scene.of(Edges.times(50, "pass(99)")).after("pass(49)", "locker(3, 1)",
                "locker(3, 0)", "meal(0, 2, 0)", "meal(1, 5, 0)", "meal(0, 99, 0)");
        late.keeps("wouldSpoil(1)", 0).keeps("wouldSpoil(2)", 1).keeps("wouldSpoil(3)", 3);
        late.keeps("wouldSpoil(99)", 7).refuses("pass(2)", -3).refuses("wouldSpoil(100)", -1);
        Scene end = late.after("pass(1)").refuses("pass(1)", -3);
        end.keeps("wouldSpoil(1)", 1).keeps("wouldSpoil(2)", 3).keeps("wouldSpoil(98)", 7);
        end.keeps("wouldSpoil(97)", 3).refuses("wouldSpoil(0)", -1).refuses("wouldSpoil(100)", -1);

        // Meals that are gone already would not spoil then.
        Scene gone = Scene.of("locker(4, 1)", "person(0)", "meal(0, 1, 0)", "meal(0, 9, 0)",
                "meal(0, 9, 0)", "meal(0, 9, 0)", "reserve(0, 1)", "fetch(0, 1037, 0)",
                "reserve(0, 2)", "fetch(0, 1074, 1)", "pass(1)");
        gone.keeps("wouldSpoil(7)", 0).keeps("wouldSpoil(8)", 8).keeps("wouldSpoil(99)", 8);
        Scene reserved = gone.after("set(0, 48)", "reserve(0, 3)");
        reserved.keeps("wouldSpoil(7)", 0).keeps("wouldSpoil(8)", 8);
    }

    private static void promise19Arriving() {
        Edges.about("Promise 19",
                "`int wouldSpoil(int hours)`: Tells which meals would spoil by pass() in "
                + "some hours (volunteers who are under way arrive as they will).");
        Scene way = Scene.of("locker(1, 1)", "locker(2, 0)", "volunteer(1, 2)", "meal(1, 9, 0)",
                "meal(1, 9, 0)", "take(0, 0)", "take(0, 1)", "go(0, 0)");
        // Meal 0 comes into the one cell with 7 cold hours; meal 1 stays with the volunteer.
        way.keeps("wouldSpoil(4)", 0).keeps("wouldSpoil(5)", 2).keeps("wouldSpoil(7)", 2);
        way.keeps("wouldSpoil(8)", 3);
        way.after("pass(1)").keeps("wouldSpoil(3)", 0).keeps("wouldSpoil(4)", 2)
                .keeps("wouldSpoil(6)", 2).keeps("wouldSpoil(7)", 3);
        // Who stays there puts nothing in by waiting.
        Scene stays = Scene.of("locker(2, 1)", "volunteer(0, 2)", "meal(0, 9, 0)", "take(0, 0)");
        stays.keeps("wouldSpoil(4)", 0).keeps("wouldSpoil(5)", 1);
    }

    private static void promise20() {
        Edges.about("Promise 20",
                "`int move(int what)`: Finds a move of a meal that saves most: a meal in a "
                + "locker that is not cold and that is not reserved, and a cold locker with a "
                + "free cell to which it could be carried before it spoils: the one with the "
                + "most cold hours on arriving, if it was carried from now on at once; of "
                + "several the lowest meal, then the lowest locker.");
        // A way of 2 lockers and 1 to 9 hours each takes 4 to 36 cold hours.
        for (int setting = 1; setting <= 9; setting += 4) {
            int lost = 4 * setting;
            Scene scene = Scene.of("locker(2, 0)", "locker(2, 0)", "locker(1, 1)",
                    "set(3, " + setting + ")");
            scene.after("meal(0, " + lost + ", 0)").refuses("move(0)", -4).refuses("move(1)", -4)
                    .refuses("move(2)", -4);
            scene.after("meal(0, " + (lost + 1) + ", 0)").tells("move(#)", 0, 2, 1);
            scene.after("meal(0, " + (lost + 2) + ", 0)").tells("move(#)", 0, 2, 2);
            scene.after("meal(0, 99, 0)").tells("move(#)", 0, 2, 99 - lost);
        }
        Scene scene = Scene.of("locker(2, 0)", "locker(1, 1)", "person(0)", "volunteer(0, 1)",
                "volunteer(1, 1)", "meal(0, 9, 0)");
        scene.tells("move(#)", 0, 1, 7);
        scene.after("reserve(0, 0)").refuses("move(0)", -4).after("pass(3)").refuses("move(2)", -4);
        scene.after("set(0, 2)", "reserve(0, 0)", "pass(2)").tells("move(#)", 0, 1, 3);
        scene.after("take(0, 0)").refuses("move(0)", -4);
        scene.after("pass(3)").tells("move(#)", 0, 1, 1).after("pass(1)").refuses("move(0)", -4);
        scene.after("pass(5)").refuses("move(0)", -4);
        Scene full = scene.after("meal(1, 50, 0)").refuses("move(0)", -4);
        full.after("take(1, 1)").tells("move(#)", 0, 1, 7).after("put(1)").refuses("move(1)", -4);
        Scene.of("locker(2, 1)", "locker(2, 1)", "meal(0, 9, 0)").refuses("move(0)", -4);
        Scene.of("locker(2, 0)", "locker(2, 0)", "meal(0, 9, 0)").refuses("move(0)", -4);

        Edges.about("Promise 20",
                "- `what`: 0: the meal; 1: the locker; 2: its cold hours on arriving");
        Edges.refusesBeside(scene, "move(#)", 2);
        scene.keeps("move(0)", 0).keeps("move(1)", 1).keeps("move(2)", 7);
        Edges.about("Promise 20",
                "Returns the number; INVALID_ARGUMENT if what is out of range; NOT_FOUND if "
                + "there is none.");
        Scene none = Scene.of();
        Edges.refusesBeside(none, "move(#)", 2);
        none.refuses("move(0)", -4).refuses("move(1)", -4).refuses("move(2)", -4);
    }

    private static void promise20Ties() {
        Edges.about("Promise 20",
                "`int move(int what)`: Finds a move of a meal that saves most: a meal in a "
                + "locker that is not cold and that is not reserved, and a cold locker with a "
                + "free cell to which it could be carried before it spoils: the one with the "
                + "most cold hours on arriving, if it was carried from now on at once; of "
                + "several the lowest meal, then the lowest locker.");
        Scene first = Scene.of("locker(2, 1)", "locker(2, 0)", "locker(2, 1)");
        first.after("meal(1, 50, 0)").tells("move(#)", 0, 0, 48);
        Scene both = Scene.of("locker(2, 0)", "locker(1, 1)", "locker(2, 0)", "locker(1, 1)",
                "locker(2, 0)");
        both.after("meal(2, 50, 0)").tells("move(#)", 0, 1, 48);
        both.after("meal(4, 50, 0)").tells("move(#)", 0, 3, 48);
        both.after("meal(4, 50, 0)", "meal(0, 50, 0)").tells("move(#)", 0, 3, 48);
        both.after("meal(4, 50, 0)", "meal(0, 51, 0)").tells("move(#)", 1, 1, 49);
        both.after("meal(2, 50, 0)", "meal(1, 9, 0)").tells("move(#)", 0, 3, 48);
        both.after("meal(0, 51, 0)", "meal(1, 9, 0)", "meal(2, 48, 0)").tells("move(#)", 2, 3, 46);
        both.after("meal(0, 52, 0)", "meal(1, 9, 0)", "meal(2, 48, 0)").tells("move(#)", 0, 3, 46);
        both.after("meal(0, 53, 0)", "meal(1, 9, 0)", "meal(2, 48, 0)").tells("move(#)", 0, 3, 47);
    }

    private static void promise21() {
        Edges.about("Promise 21",
                "`int shareBits()`: Returns the bits of the share of meals that were "
                + "fetched, of all that are gone, as a float: both as floats, divided.");
        int[][] shares = {{0, 1}, {1, 1}, {0, 24}, {1, 24}, {23, 24}, {24, 24}, {1, 3}, {2, 3},
            {1, 16}, {1, 17}, {15, 16}, {16, 17}, {12, 24}, {11, 23}, {12, 23}, {1, 2}};
        for (int[] share : shares) {
            Scene scene = Scene.of("locker(1, 0)", "person(0)");
            for (int meal = 0; meal < share[1]; meal++) {
                boolean fetched = meal < share[0];
                scene = scene.after("meal(0, 1, 0)",
                        fetched ? "reserve(0, " + meal + ")" : "pass(1)");
                if (fetched) {
                    scene = scene.after("fetch(0, " + Edges.code(meal, 0, 0) + ", 0)");
                }
            }
            scene.tells("shareBits()", Float.floatToIntBits((float) share[0] / (float) share[1]));
        }
        Scene one = Scene.of("locker(1, 0)", "person(0)", "meal(0, 9, 0)", "reserve(0, 0)");
        one.after("fetch(0, 1000, 1)").tells("shareBits()", 0);
        one.after("fetch(0, 1000, 0)").tells("shareBits()", 0x3F800000);

        Edges.about("Promise 21", "Returns the bits; NOT_FOUND if no meal is gone.");
        Scene.of().refuses("shareBits()", -4);
        Scene in = Scene.of("locker(1, 1)", "person(0)", "volunteer(0, 1)", "meal(0, 4, 0)");
        in.refuses("shareBits()", -4).after("take(0, 0)").refuses("shareBits()", -4)
                .after("pass(1)")
                .refuses("shareBits()", -4).after("pass(1)").keeps("shareBits()", 0);
        in.after("reserve(0, 0)").refuses("shareBits()", -4).after("fetch(0, 1000, 0)")
                .keeps("shareBits()", 0x3F800000).after("undo()").refuses("shareBits()", -4);
        in.after("pass(3)").refuses("shareBits()", -4).after("pass(1)").keeps("shareBits()", 0);
    }
}
