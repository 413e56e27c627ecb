/** A test for each sentence under "What it is" and "Terms" that names a boundary case. */
final class TermsEdges {
    private static final String TERMS = "Terms";

    private TermsEdges() {
    }

    static void run() {
        calls();
        timeAndSets();
        lockers();
        meals();
        places();
        coldHours();
        people();
        reserving();
        codes();
        lapsing();
        barring();
        spoilingReservations();
        reservedIsNotCarried();
        fetching();
        volunteers();
        ways();
        arriving();
        hours();
        settings();
    }

    private static void calls() {
        Edges.about("What it is",
                "An object is used for at most 512 calls after it has been made; what later "
                + "calls answer is free.");
        MealLockers x = new MealLockers();
        Edges.is("call 1", x.locker(1, 1), 0);
        Edges.is("call 2", x.meal(0, 99, 0), 0);
        for (int call = 3; call <= 510; call++) {
            Edges.is("call " + call, call % 2 == 1 ? x.set(3, 9) : x.undo(), call % 2 == 1 ? 1 : 2);
        }
        Edges.is("call 511", x.pass(98), 0);
        Edges.is("call 512", x.mealOf(0, 2), 1);
    }

    private static void timeAndSets() {
        Edges.about(TERMS, "Time is told in hours, 0 at first.");
        Scene.of().tells("count(4)", 0).changes("pass(1)", 0).tells("count(4)", 1);

        Edges.about(TERMS, "Sets are told as bits: bit k is for number k.");
        Scene full = allMeals();
        full.tells("lockerOf(#, 2)", 0xFF, 0xFF00, 0xFF0000);
        full.tells("wouldSpoil(4)", 0).tells("wouldSpoil(5)", 0xFF0000);
        full.tells("wouldSpoil(9)", 0xFFFFFF);
        Scene taken = full.after("volunteer(0, 1)", "volunteer(2, 1)", "take(0, 0)", "take(1, 23)");
        taken.tells("volunteerOf(#, 2)", 1, 1 << 23)
                .tells("lockerOf(#, 2)", 0xFE, 0xFF00, 0x7F0000);
        Scene bits = Scene.of("locker(5, 1)", "meal(0, 9, 1)", "meal(0, 9, 16)");
        bits.after("person(16)").tells("advice(0)", 0);
        bits.after("person(1)").tells("advice(0)", 1);
        bits.after("person(14)").tells("advice(0)", 0);
    }

    /** Two cold lockers and one that is not, each with eight meals of 9 cold hours. */
    private static Scene allMeals() {
        return Scene.of("locker(8, 1)", "locker(8, 1)", "locker(8, 0)")
                .after(Edges.times(8, "meal(0, 9, 0)")).after(Edges.times(8, "meal(1, 9, 0)"))
                .after(Edges.times(8, "meal(2, 9, 0)"));
    }

    private static void lockers() {
        Edges.about(TERMS,
                "There are at most 5 lockers, numbered from 0, each with cells (1 to 8, one "
                + "for a meal) and cold or not.");
        Scene none = Scene.of();
        none.refuses("lockerOf(0, 0)", -1);
        Edges.changesWithin(none, "locker(#, 0)", 0, 1, 8);
        Edges.changesWithin(none, "locker(1, #)", 0, 0, 1);
        Scene four = none.after(Edges.times(4, "locker(1, 1)"));
        Scene five = four.changes("locker(8, 0)", 4);
        five.tells("lockerOf(#, 0)", 1, 1, 1, 1, 8).tells("lockerOf(#, 1)", 1, 1, 1, 1, 0);
        five.refuses("lockerOf(5, 0)", -1);
        five.refuses("locker(1, 1)", Edges.LIMIT_REACHED);

        Scene one = none.after("locker(1, 1)");
        one.changes("meal(0, 9, 0)", 0).refuses("meal(0, 9, 0)", Edges.NOT_POSSIBLE);
        Scene eight = none.after("locker(8, 1)").after(Edges.times(7, "meal(0, 9, 0)"));
        eight.changes("meal(0, 9, 0)", 7).refuses("meal(0, 9, 0)", Edges.NOT_POSSIBLE);
    }

    private static void meals() {
        Edges.about(TERMS,
                "There are at most 24 meals, numbered from 0; a meal has a set of allergens "
                + "(of the allergens 0 to 4), and cold hours that are left (1 to 99 at first).");
        Scene none = Scene.of("locker(8, 1)", "locker(8, 1)", "locker(8, 1)", "locker(1, 1)");
        none.refuses("mealOf(0, 0)", -1);
        Edges.changesWithin(none, "meal(0, 9, #)", 0, 0, 31);
        Edges.changesWithin(none, "meal(0, #, 0)", 0, 1, 99);
        Scene some = none.after("meal(0, 1, 31)", "meal(0, 99, 0)");
        some.tells("mealOf(#, 2)", 1, 99).tells("mealOf(#, 3)", 31, 0);
        Scene last = none.after(Edges.times(8, "meal(0, 9, 0)"))
                .after(Edges.times(8, "meal(1, 9, 0)")).after(Edges.times(7, "meal(2, 9, 0)"));
        Scene full = last.changes("meal(2, 9, 0)", 23);
        full.tells("mealOf(23, 0)", 0).tells("count(1)", 24).refuses("mealOf(24, 0)", -1);
        full.refuses("meal(3, 9, 0)", Edges.LIMIT_REACHED);
    }

    private static void places() {
        Edges.about(TERMS,
                "A meal is in a locker, or carried by a volunteer, or gone: fetched, refused "
                + "or spoilt.");
        Scene in = Scene.of("locker(3, 0)", "meal(0, 3, 0)", "person(0)", "volunteer(0, 1)");
        in.tells("mealOf(0, 0)", 0).tells("lockerOf(0, 2)", 1).tells("volunteerOf(0, 2)", 0);
        Scene carried = in.after("take(0, 0)");
        carried.tells("mealOf(0, 0)", 2).tells("lockerOf(0, 2)", 0).tells("volunteerOf(0, 2)", 1);
        carried.tells("count(5)", 0).tells("count(6)", 1);
        Scene reserved = in.after("reserve(0, 0)");
        Scene[] gone = {
            reserved.after("fetch(0, 1000, 0)"), reserved.after("fetch(0, 1000, 1)"),
            in.after("pass(2)"), carried.after("pass(2)"),
        };
        int[] stages = {3, 4, 5, 5};
        for (int i = 0; i < gone.length; i++) {
            gone[i].tells("mealOf(0, 0)", stages[i]).tells("lockerOf(0, 2)", 0);
            gone[i].tells("volunteerOf(0, 2)", 0).tells("count(5)", 0).tells("count(6)", 0);
            gone[i].tells("wouldSpoil(99)", 0).changes("pass(99)", 0);
            gone[i].refuses("reserve(0, 0)", -2).refuses("take(0, 0)", -2).refuses("put(0)", -2);
            gone[i].refuses("fetch(0, 1000, 0)", -2).refuses("advice(0)", -4);
        }
    }

    private static void coldHours() {
        Edges.about(TERMS,
                "In each hour a meal in a cold locker loses 1 of its cold hours, one that is "
                + "elsewhere loses 2; with 0 or fewer left it spoils (it has 0 then).");
        Scene cold = Scene.of("locker(4, 1)", "meal(0, 1, 0)", "meal(0, 2, 0)", "meal(0, 3, 0)");
        Scene coldLater = cold.changes("pass(1)", 1);
        coldLater.tells("mealOf(#, 0)", 5, 0, 0).tells("mealOf(#, 2)", 0, 1, 2);
        coldLater.changes("pass(1)", 1).tells("mealOf(#, 2)", 0, 0, 1);

        Scene warm = Scene.of("locker(4, 0)", "meal(0, 1, 0)", "meal(0, 2, 0)", "meal(0, 3, 0)",
                "meal(0, 4, 0)");
        Scene warmLater = warm.changes("pass(1)", 2);
        warmLater.tells("mealOf(#, 0)", 5, 5, 0, 0).tells("mealOf(#, 2)", 0, 0, 1, 2);
        warmLater.changes("pass(1)", 2).tells("mealOf(#, 2)", 0, 0, 0, 0);

        Scene carried = cold.after("volunteer(0, 3)", "take(0, 0)", "take(0, 1)", "take(0, 2)");
        carried.changes("pass(1)", 2).tells("mealOf(#, 2)", 0, 0, 1).changes("pass(1)", 1);
        Scene reserved = cold.after("person(0)", "reserve(0, 1)");
        reserved.changes("pass(1)", 1).tells("mealOf(#, 2)", 0, 1, 2);
    }

    private static void people() {
        Edges.about(TERMS,
                "There are at most 8 people, numbered from 0, each with a set of allergies, "
                + "strikes (0 at first), and perhaps an hour until which the person is barred "
                + "(not from this hour on).");
        Scene none = Scene.of();
        none.refuses("personOf(0, 0)", -1);
        Edges.changesWithin(none, "person(#)", 0, 0, 31);
        Scene seven = none.after(Edges.times(7, "person(0)"));
        Scene eight = seven.changes("person(31)", 7);
        eight.tells("personOf(7, #)", 31, 0, 0, -4, 0, 0);
        eight.refuses("personOf(8, 0)", -1).refuses("person(0)", Edges.LIMIT_REACHED);

        Scene barred = barredFor(3);
        barred.tells("personOf(0, 2)", 3).refuses("reserve(0, 0)", -2);
        barred.after("pass(2)").tells("personOf(0, 2)", 1).refuses("reserve(0, 0)", -2);
        barred.after("pass(3)").tells("personOf(0, 2)", 0)
                .changes("reserve(0, 0)", Edges.code(0, 4, 0));
        barred.after("pass(4)").tells("personOf(0, 2)", 0)
                .changes("reserve(0, 0)", Edges.code(0, 5, 0));
        barred.after("person(0)").changes("reserve(1, 0)", Edges.code(0, 1, 1));
    }

    /** Person 0 was barred in the hour 1, for so many hours; meal 0 is free to be reserved. */
    private static Scene barredFor(int hours) {
        return Scene.of("locker(2, 1)", "meal(0, 99, 0)", "person(0)", "set(0, 1)", "set(1, 1)",
                "set(2, " + hours + ")", "reserve(0, 0)", "pass(1)");
    }

    private static void reserving() {
        Edges.about(TERMS,
                "A person can reserve a meal in a locker that nobody has reserved, if the "
                + "person is not barred, has no reservation, and none of the allergens of the "
                + "meal is among the allergies.");
        Scene scene = Scene.of("locker(8, 1)", "meal(0, 50, 0)", "meal(0, 50, 0)", "person(0)",
                "person(0)", "volunteer(0, 1)");
        Scene reserved = scene.changes("reserve(0, 0)", 1000);
        reserved.refuses("reserve(1, 0)", -2).refuses("reserve(0, 0)", -2);
        reserved.refuses("reserve(0, 1)", -2).changes("reserve(1, 1)", Edges.code(1, 0, 1));
        scene.after("take(0, 0)").refuses("reserve(0, 0)", -2).after("put(0)")
                .changes("reserve(0, 0)", 1000);
        // The last meal and the last person are looked at, too.
        Scene last = scene.after("reserve(1, 1)").refuses("reserve(1, 0)", -2);
        last.refuses("reserve(0, 1)", -2).changes("reserve(0, 0)", 1000);

        for (int k = 0; k < 5; k++) {
            int bit = 1 << k;
            Scene one = Scene.of("locker(8, 1)", "meal(0, 50, " + bit + ")", "meal(0, 50, 31)",
                    "meal(0, 50, 0)", "person(" + bit + ")", "person(" + (31 - bit) + ")");
            one.refuses("reserve(0, 0)", -2).refuses("reserve(0, 1)", -2);
            one.refuses("reserve(1, 1)", -2);
            one.changes("reserve(0, 2)", Edges.code(2, 0, 0));
            one.changes("reserve(1, 0)", Edges.code(0, 0, 1));
        }
    }

    private static void codes() {
        Edges.about(TERMS,
                "The meal gets a code: 1000 plus (37 times the number of the meal, plus 11 "
                + "times the hour, plus 7 times the number of the person) modulo 9000.");
        Scene people = Scene.of(Edges.times(8, "person(0)")).after("locker(8, 1)");
        Scene first = people.after(Edges.times(4, "meal(0, 99, 0)"));
        first.changes("reserve(0, 0)", 1000);
        first.changes("reserve(7, 0)", 1049);
        first.changes("reserve(0, 3)", 1111);
        first.after("pass(1)").changes("reserve(0, 0)", 1011);

        // 37 * 3 + 11 * 808 = 8999, and 11 * 815 + 7 * 5 = 9000.
        Scene before = people.after(Edges.times(8, "pass(99)"));
        Scene most = before.after("pass(16)").after(Edges.times(4, "meal(0, 99, 0)"));
        most.changes("reserve(0, 3)", 9999).changes("fetch(0, 9999, 0)", 3);
        most.changes("reserve(1, 3)", 1006);
        Scene wrapped = before.after("pass(23)").after(Edges.times(4, "meal(0, 99, 0)"));
        wrapped.changes("reserve(5, 0)", 1000).changes("fetch(0, 1000, 1)", 0);
        wrapped.changes("reserve(4, 0)", 9993).changes("fetch(0, 9993, 0)", 0);
        // 11 * 1636 = 17996 is below 18000, and so is not the next one of a person.
        Scene twice = people.after(Edges.times(16, "pass(99)")).after("pass(52)", "meal(0, 99, 0)");
        twice.changes("reserve(0, 0)", 9996);
        twice.changes("reserve(1, 0)", 1003);

        Scene late = Scene.of(Edges.times(50, "pass(99)")).after("pass(50)", "locker(8, 1)")
                .after(Edges.times(8, "person(0)")).after("locker(8, 1)", "locker(8, 1)")
                .after(Edges.times(8, "meal(0, 9, 0)")).after(Edges.times(8, "meal(1, 9, 0)"))
                .after(Edges.times(8, "meal(2, 9, 0)"));
        late.changes("reserve(0, 0)", 2000);
        late.changes("reserve(7, 23)", 1000 + 55900 - 54000).changes("fetch(2, 2900, 0)", 23);
    }

    private static void lapsing() {
        Edges.about(TERMS,
                "The reservation lapses when at least setting 0 hours have gone by since "
                + "then: the person gets a strike.");
        int[] settings = {1, 4, 48};
        for (int setting : settings) {
            Scene reserved = Scene.of("locker(4, 1)", "meal(0, 99, 0)", "person(0)", "pass(3)",
                    "set(0, " + setting + ")", "reserve(0, 0)");
            Scene ahead = setting == 1 ? reserved : reserved.after("pass(" + (setting - 1) + ")");
            ahead.tells("mealOf(0, 0)", 1).tells("mealOf(0, 4)", 1033).tells("count(10)", 1);
            ahead.tells("personOf(0, #)", 0, 0, 0, 0, 0, 0).changes("fetch(0, 1033, 0)", 0);
            Scene then = ahead.changes("pass(1)", 0);
            then.tells("mealOf(0, 0)", 0).refuses("mealOf(0, 4)", -4).refuses("mealOf(0, 5)", -4);
            then.tells("personOf(0, #)", 0, 1, 0, -4, 0, 1).tells("count(10)", 0);
            then.refuses("fetch(0, 1033, 0)", -2);
            then.changes("reserve(0, 0)", Edges.code(0, 3 + setting, 0));
        }
        Scene later = Scene.of("locker(4, 1)", "meal(0, 99, 0)", "person(0)", "set(0, 9)",
                "reserve(0, 0)", "pass(6)");
        later.after("set(0, 8)", "pass(1)").tells("mealOf(0, 0)", 1);
        later.after("set(0, 7)", "pass(1)").tells("mealOf(0, 0)", 0).tells("personOf(0, 1)", 1);
        later.after("set(0, 1)").tells("mealOf(0, 0)", 1).changes("pass(1)", 0)
                .tells("mealOf(0, 0)", 0).tells("personOf(0, 1)", 1).tells("personOf(0, 5)", 1);
    }

    private static void barring() {
        Edges.about(TERMS,
                "If there are setting 1 strikes or more then, the person is barred until "
                + "setting 2 hours later, and has no strikes any more.");
        int[] settings = {1, 2, 3, 9};
        for (int setting : settings) {
            Scene scene = Scene.of("locker(4, 1)", "meal(0, 99, 0)", "person(0)", "set(0, 1)",
                    "set(1, " + setting + ")");
            for (int strikes = 1; strikes < setting; strikes++) {
                scene = scene.after("reserve(0, 0)", "pass(1)");
                scene.tells("personOf(0, #)", 0, strikes, 0, -4, 0, strikes);
            }
            Scene barred = scene.after("reserve(0, 0)", "pass(1)");
            barred.tells("personOf(0, #)", 0, 0, 24, -4, 0, setting).refuses("reserve(0, 0)", -2);
        }
        barredFor(1).tells("personOf(0, 2)", 1).refuses("reserve(0, 0)", -2).after("pass(1)")
                .changes("reserve(0, 0)", Edges.code(0, 2, 0));
        Scene longest = barredFor(99).tells("personOf(0, 2)", 99).after("pass(97)",
                "meal(0, 99, 0)", "pass(1)");
        longest.tells("personOf(0, 2)", 1).refuses("reserve(0, 1)", -2).after("pass(1)")
                .changes("reserve(0, 1)", Edges.code(1, 100, 0));

        Scene two = Scene.of("locker(4, 1)", "meal(0, 99, 0)", "person(0)", "set(0, 1)",
                "reserve(0, 0)", "pass(1)", "reserve(0, 0)", "pass(1)");
        two.tells("personOf(0, 1)", 2).changes("set(1, 1)", 3).tells("personOf(0, #)", 0, 2, 0);
        two.after("set(1, 1)", "reserve(0, 0)", "pass(1)").tells("personOf(0, #)", 0, 0, 24);
        two.after("set(1, 4)", "reserve(0, 0)", "pass(1)").tells("personOf(0, #)", 0, 3, 0);
        // The strikes begin with 0 again, and the hours are told from the hour of the strike.
        Scene again = barredFor(3).after("set(1, 2)", "set(2, 5)", "pass(3)", "reserve(0, 0)",
                "pass(1)");
        again.tells("personOf(0, #)", 0, 1, 0).after("reserve(0, 0)", "pass(1)")
                .tells("personOf(0, #)", 0, 0, 5);
    }

    private static void spoilingReservations() {
        Edges.about(TERMS, "A reservation of a meal that spoils is gone without a strike.");
        for (int hours = 3; hours <= 5; hours++) {
            Scene scene = Scene.of("locker(4, 1)", "meal(0, " + hours + ", 0)", "meal(0, 99, 0)",
                    "person(0)", "reserve(0, 0)", "pass(3)");
            boolean lapses = hours == 5;
            Scene then = hours == 3 ? scene : scene.after("pass(1)");
            then.tells("mealOf(0, #)", lapses ? 0 : 5, 0, lapses ? 1 : 0, 0, -4, -4, -4);
            then.tells("personOf(0, #)", 0, lapses ? 1 : 0, 0, -4, 0, lapses ? 1 : 0);
            then.tells("count(10)", 0).refuses("fetch(0, 1000, 0)", -2);
            then.tells("lockerOf(0, 8)", lapses ? 0 : 1).tells("count(9)", lapses ? 0 : 1);
            then.changes("reserve(0, 1)", Edges.code(1, hours == 3 ? 3 : 4, 0));
            then.after("pass(9)").tells("personOf(0, 5)", lapses ? 1 : 0);
        }
    }

    private static void reservedIsNotCarried() {
        Edges.about(TERMS, "A meal that is reserved is not carried.");
        Scene scene = Scene.of("locker(4, 1)", "locker(4, 1)", "meal(0, 50, 0)", "person(0)",
                "volunteer(0, 4)", "reserve(0, 0)");
        scene.refuses("take(0, 0)", -2).refuses("mealOf(0, 6)", -4);
        scene.after("go(0, 1)", "pass(1)").tells("mealOf(0, #)", 1, 0);
        scene.after("pass(3)").refuses("take(0, 0)", -2);
        scene.after("pass(4)").changes("take(0, 0)", 1).refuses("reserve(0, 0)", -2);
    }

    private static void fetching() {
        Edges.about(TERMS,
                "With its code the meal is fetched at its locker, or refused there (it is "
                + "gone, too, but was not fetched; this is no strike).");
        Scene scene = Scene.of("locker(4, 1)", "locker(4, 1)", "meal(1, 50, 0)", "person(0)",
                "pass(1)", "reserve(0, 0)");
        scene.refuses("fetch(1, 1010, 0)", -2).refuses("fetch(1, 1012, 0)", -2);
        scene.refuses("fetch(0, 1011, 0)", -2).refuses("fetch(0, 1011, 1)", -2);
        Scene fetched = scene.changes("fetch(1, 1011, 0)", 0);
        fetched.tells("personOf(0, #)", 0, 0, 0, -4, 1, 0).tells("count(7)", 1)
                .tells("count(8)", 0);
        fetched.tells("lockerOf(1, 5)", 1).tells("lockerOf(1, 6)", 0).tells("mealOf(0, 0)", 3);
        Scene refused = scene.changes("fetch(1, 1011, 1)", 0);
        refused.tells("personOf(0, #)", 0, 0, 0, -4, 0, 0).tells("count(7)", 0)
                .tells("count(8)", 1);
        refused.tells("lockerOf(1, 5)", 0).tells("lockerOf(1, 6)", 1).tells("mealOf(0, 0)", 4);
        refused.after("pass(9)").tells("personOf(0, #)", 0, 0, 0, -4, 0, 0);
        // The last hour in which the code holds.
        scene.after("pass(3)").changes("fetch(1, 1011, 0)", 0);
        scene.after("pass(4)").refuses("fetch(1, 1011, 0)", -2);
    }

    private static void volunteers() {
        Edges.about(TERMS,
                "There are at most 3 volunteers, numbered from 0, each at a locker, with "
                + "room for some meals (1 to 4).");
        Scene none = Scene.of("locker(8, 1)", "locker(1, 1)")
                .after(Edges.times(6, "meal(0, 9, 0)"));
        none.refuses("volunteerOf(0, 0)", -1);
        Edges.changesWithin(none, "volunteer(0, #)", 0, 1, 4);
        Edges.changesWithin(none, "volunteer(#, 1)", 0, 0, 1);
        Scene two = none.after("volunteer(0, 1)", "volunteer(0, 4)");
        Scene three = two.changes("volunteer(1, 3)", 2);
        three.tells("volunteerOf(#, 0)", 1, 4, 3).tells("volunteerOf(#, 1)", 0, 0, 1);
        three.refuses("volunteerOf(3, 0)", -1);
        three.refuses("volunteer(0, 1)", Edges.LIMIT_REACHED);
        three.changes("take(0, 0)", 1).refuses("take(0, 1)", -2);
        three.after("take(1, 5)", "take(1, 4)", "take(1, 3)").changes("take(1, 2)", 4)
                .refuses("take(1, 1)", -2);
    }

    private static void ways() {
        Edges.about(TERMS,
                "A volunteer at a locker can take meals of it (that are not reserved), and "
                + "go to another locker, with meals or without: this takes as many hours as "
                + "both numbers of the lockers differ, times setting 3.");
        Scene scene = Scene.of(Edges.times(5, "locker(2, 1)")).after("person(0)", "volunteer(0, 2)",
                "volunteer(4, 2)", "meal(0, 99, 0)", "meal(0, 99, 0)", "meal(1, 99, 0)",
                "reserve(0, 1)", "pass(1)");
        scene.changes("take(0, 0)", 1);
        scene.refuses("take(0, 1)", -2).refuses("take(0, 2)", -2).refuses("take(1, 0)", -2);
        scene.refuses("go(0, 0)", -2).refuses("go(1, 4)", -2);
        for (int setting = 1; setting <= 9; setting += 4) {
            Scene set = scene.after("set(3, " + setting + ")");
            for (int way = 1; way <= 4; way++) {
                set.changes("go(0, " + way + ")", 1 + way * setting);
                set.changes("go(1, " + (4 - way) + ")", 1 + way * setting);
            }
        }
        Scene[] both = {scene, scene.after("take(0, 0)")};
        for (int meals = 0; meals <= 1; meals++) {
            Scene gone = both[meals].after("set(3, 9)").changes("go(0, 4)", 37);
            gone.tells("volunteerOf(0, #)", 2, 4, meals, 36, 0);
            Scene ahead = gone.after("pass(35)").tells("volunteerOf(0, #)", 2, 4, meals, 1, 35);
            ahead.refuses("go(0, 0)", -2).refuses("put(0)", -2).refuses("take(0, 0)", -2);
            Scene there = ahead.after("pass(1)").tells("volunteerOf(0, #)", 2, 4, 0, 0, 36);
            there.tells("lockerOf(4, 2)", meals).changes("go(0, 3)", 46);
        }
    }

    private static void arriving() {
        Edges.about(TERMS,
                "On arriving, the meals are put into free cells, by the numbers of meals; "
                + "those for which there is no free cell stay with the volunteer, and can be "
                + "put in later.");
        for (int free = 0; free <= 4; free++) {
            Scene scene = Scene.of("locker(4, 0)", "locker(4, 1)", "volunteer(0, 3)")
                    .after(Edges.times(4, "meal(0, 50, 0)"))
                    .after(Edges.times(4 - free, "meal(1, 2, 0)"))
                    .after("take(0, 3)", "take(0, 0)", "take(0, 2)", "go(0, 1)", "pass(1)");
            int put = Math.min(3, free);
            int[] sets = {0, 1, 1 + 4, 1 + 4 + 8};
            int before = (1 << (8 - free)) - 16;
            scene.tells("lockerOf(1, 2)", before + sets[put]).tells("lockerOf(1, 4)", put);
            scene.tells("volunteerOf(0, 2)", 13 - sets[put]).tells("volunteerOf(0, 3)", 0);
            scene.refuses("put(0)", -2);
            Scene later = scene.after("pass(1)").tells("lockerOf(1, 2)", sets[put]);
            if (put < 3) {
                Scene all = later.changes("put(0)", 3 - put).tells("lockerOf(1, 2)", 13);
                all.tells("lockerOf(1, 4)", 3).tells("volunteerOf(0, 2)", 0).refuses("put(0)", -2);
            } else {
                later.refuses("put(0)", -2);
            }
        }
    }

    private static void hours() {
        Edges.about(TERMS, "The time becomes greater by 1.");
        Scene.of("pass(1)").tells("count(4)", 1).after("pass(1)").tells("count(4)", 2);
        Scene.of("pass(99)").tells("count(4)", 99);

        Edges.about(TERMS, "Then meals lose cold hours, and spoil, by numbers.");
        // Ahead of arriving: a meal that comes into the cold lost 2 on the way, and may be spoilt.
        Scene way = Scene.of("locker(2, 1)", "locker(3, 0)", "meal(1, 1, 0)", "meal(1, 2, 0)",
                "meal(1, 3, 0)", "volunteer(1, 4)", "take(0, 0)", "take(0, 1)", "take(0, 2)",
                "go(0, 0)");
        Scene there = way.changes("pass(1)", 2);
        there.tells("mealOf(#, 0)", 5, 5, 0).tells("mealOf(#, 2)", 0, 0, 1);
        there.tells("lockerOf(0, 2)", 4).tells("lockerOf(0, 4)", 1).tells("lockerOf(0, 8)", 0);

        Edges.about(TERMS,
                "Then volunteers whose hour of arriving has come arrive, by numbers.");
        Scene race = Scene.of("locker(1, 1)", "locker(2, 1)", "locker(2, 1)", "locker(1, 0)",
                "meal(1, 40, 0)", "meal(3, 40, 0)", "meal(2, 40, 0)", "volunteer(3, 1)",
                "volunteer(1, 1)", "take(0, 1)", "take(1, 0)");
        // Both arrive in one hour, and there is one cell.
        Scene same = race.after("go(0, 2)", "go(1, 2)", "pass(1)");
        same.tells("volunteerOf(#, 3)", 0, 0).tells("volunteerOf(#, 2)", 0, 1);
        same.tells("lockerOf(2, 2)", 2 + 4);
        // A meal that spoils in this hour gives its cell ahead of them.
        Scene freed = race.after("meal(2, 1, 0)", "go(0, 2)", "go(1, 2)", "pass(1)");
        freed.tells("lockerOf(2, 2)", 2 + 4).tells("volunteerOf(#, 2)", 0, 1);
        // Who arrives an hour ahead is there first, also with the greater number.
        Scene ahead = race.after("go(0, 0)", "go(1, 0)", "pass(1)").tells("lockerOf(0, 2)", 1);
        ahead.after("pass(2)").tells("lockerOf(0, 2)", 1).tells("volunteerOf(#, 2)", 2, 0);

        Edges.about(TERMS, "Then reservations lapse, by numbers of meals.");
        Scene two = Scene.of("locker(3, 1)", "person(0)", "person(0)", "person(0)",
                "meal(0, 40, 0)", "meal(0, 40, 0)", "meal(0, 40, 0)", "reserve(0, 1)",
                "reserve(1, 0)", "pass(1)", "reserve(2, 2)");
        two.after("pass(2)").tells("mealOf(#, 0)", 1, 1, 1).tells("personOf(#, 5)", 0, 0, 0);
        two.after("pass(3)").tells("mealOf(#, 0)", 0, 0, 1).tells("personOf(#, 5)", 1, 1, 0);
        two.after("pass(4)").tells("mealOf(#, 0)", 0, 0, 0).tells("personOf(#, 5)", 1, 1, 1);
    }

    private static void settings() {
        Edges.about(TERMS,
                "The settings are (in parentheses: range; first value): 0 hours of a code (1 "
                + "to 48; 4), 1 strikes (1 to 9; 3), 2 hours for which a person is barred (1 "
                + "to 99; 24), 3 hours from locker to locker (1 to 9; 1).");
        int[] first = {4, 3, 24, 1};
        int[] most = {48, 9, 99, 9};
        for (int what = 0; what < 4; what++) {
            Scene start = Scene.of().tells("count(" + (13 + what) + ")", first[what]);
            Edges.changesWithin(start, "set(" + what + ", #)", first[what], 1, most[what]);
            start.after("set(" + what + ", " + most[what] + ")")
                    .tells("count(" + (13 + what) + ")", most[what])
                    .changes("set(" + what + ", 1)", most[what])
                    .tells("count(" + (13 + what) + ")", 1);
        }
    }
}
