/** Promises 18 to 22: what should be done, and undo. */
public final class AdviceTest {
    private static final Due DUE = new Due("AdviceTest");

    public static void main(String[] args) {
        promise18Advice();
        promise18BarredOrWithReservation();
        promise19WouldSpoil();
        promise19Arriving();
        promise19BeyondTheLastHour();
        promise20Move();
        promise20FreeCells();
        promise20Ways();
        promise21ShareBits();
        promise21AllShares();
        promise22Undo();
        promise22HistoryOfFour();
        promise22ChangesAfterUndo();
        DUE.end();
    }

    private static void promise18Advice() {
        MealLockers x = new MealLockers();
        DUE.is("18 no person", x.advice(0), -1);
        x.person(0);
        DUE.is("18 person -1", x.advice(-1), -1);
        DUE.is("18 person 1", x.advice(1), -1);
        DUE.is("18 no meal", x.advice(0), -4);
        x.locker(8, 1);
        x.locker(8, 0);
        x.person(8);
        x.volunteer(1, 4);
        x.meal(0, 6, 0);
        DUE.is("18 the only one", x.advice(0), 0);
        x.meal(1, 11, 0);
        DUE.is("18 6 in the cold, 11 elsewhere: 6 hours each", x.advice(0), 0);
        x.meal(1, 10, 8);
        DUE.is("18 10 elsewhere: 5 hours", x.advice(0), 2);
        DUE.is("18 but an allergen", x.advice(1), 0);
        x.meal(1, 9, 0);
        DUE.is("18 9 elsewhere: 5 hours, too", x.advice(0), 2);
        DUE.is("18 9 elsewhere: 5 hours", x.advice(1), 3);
        x.take(0, 3);
        DUE.is("18 carried", x.advice(1), 0);
        x.person(0);
        x.reserve(2, 0);
        DUE.is("18 reserved", x.advice(1), 1);
        x.take(0, 1);
        DUE.is("18 none is left", x.advice(1), -4);
        x.pass(5);
        DUE.is("18 only what spoilt", x.advice(0), 0);
        x.pass(1);
        DUE.is("18 all spoilt or carried", x.advice(0), -4);
    }

    private static void promise18BarredOrWithReservation() {
        MealLockers x = new MealLockers();
        x.set(0, 1);
        x.set(1, 1);
        x.locker(8, 1);
        x.person(0);
        x.meal(0, 90, 0);
        x.meal(0, 50, 0);
        x.reserve(0, 1);
        DUE.is("18 with a reservation, of another", x.advice(0), 0);
        x.pass(1);
        DUE.is("18 barred", x.personOf(0, 2), 24);
        DUE.is("18 barred, but advised", x.advice(0), 1);
    }

    private static void promise19WouldSpoil() {
        MealLockers x = new MealLockers();
        x.locker(8, 1);
        x.locker(8, 0);
        x.meal(0, 3, 0);
        x.meal(1, 3, 0);
        x.meal(1, 6, 0);
        x.meal(0, 99, 0);
        DUE.is("19 hours 0", x.wouldSpoil(0), -1);
        DUE.is("19 hours -1", x.wouldSpoil(-1), -1);
        DUE.is("19 hours 100", x.wouldSpoil(100), -1);
        DUE.is("19 hours far out", x.wouldSpoil(Integer.MAX_VALUE), -1);
        DUE.is("19 one hour", x.wouldSpoil(1), 0);
        DUE.is("19 two hours", x.wouldSpoil(2), 2);
        DUE.is("19 three hours", x.wouldSpoil(3), 7);
        DUE.is("19 98 hours", x.wouldSpoil(98), 7);
        DUE.is("19 99 hours", x.wouldSpoil(99), 15);
        DUE.is("19 changes nothing", x.count(4), 0);
        x.pass(2);
        DUE.is("19 not what is spoilt", x.wouldSpoil(1), 5);
        x.person(0);
        x.fetch(0, x.reserve(0, 0), 0);
        DUE.is("19 not what is gone", x.wouldSpoil(99), 4 + 8);
        DUE.is("19 fetched", x.count(7), 1);
    }

    private static void promise19Arriving() {
        MealLockers x = new MealLockers();
        x.locker(1, 1);
        x.locker(2, 0);
        x.meal(1, 9, 0);
        x.meal(1, 9, 0);
        x.volunteer(1, 2);
        x.take(0, 0);
        x.take(0, 1);
        x.go(0, 0);
        DUE.is("19 before", x.wouldSpoil(4), 0);
        DUE.is("19 without a cell", x.wouldSpoil(5), 2);
        DUE.is("19 with a cell", x.wouldSpoil(7), 2);
        DUE.is("19 with a cell", x.wouldSpoil(8), 3);
        DUE.is("19 still under way", x.volunteerOf(0, 3), 1);
    }

    private static void promise19BeyondTheLastHour() {
        MealLockers x = new MealLockers();
        x.locker(1, 1);
        x.locker(1, 0);
        for (int i = 0; i < 50; i++) {
            x.pass(99);
        }
        x.pass(49);
        x.meal(1, 9, 0);
        x.volunteer(1, 1);
        x.take(0, 0);
        x.go(0, 0);
        DUE.is("19 time", x.count(4), 4999);
        DUE.is("19 beyond 5000", x.wouldSpoil(7), 0);
        DUE.is("19 beyond 5000", x.wouldSpoil(8), 1);
        DUE.is("19 beyond 5000", x.wouldSpoil(99), 1);
        DUE.is("19 pass does not", x.pass(8), -3);
    }

    private static void promise20Move() {
        MealLockers x = new MealLockers();
        DUE.is("20 what -1", x.move(-1), -1);
        DUE.is("20 what 3", x.move(3), -1);
        DUE.is("20 none", x.move(2), -4);
        x.locker(8, 0);
        x.locker(8, 0);
        x.locker(8, 1);
        DUE.is("20 no meal", x.move(0), -4);
        x.meal(2, 90, 0);
        DUE.is("20 in the cold", x.move(0), -4);
        x.meal(0, 4, 0);
        DUE.is("20 would spoil on the way", x.move(1), -4);
        x.meal(0, 5, 0);
        DUE.is("20 just before it spoils", x.move(0), 2);
        DUE.is("20 just before it spoils", x.move(1), 2);
        DUE.is("20 just before it spoils", x.move(2), 1);
        x.meal(1, 3, 0);
        DUE.is("20 as many: the lowest meal", x.move(0), 2);
        x.meal(1, 4, 0);
        DUE.is("20 more", x.move(0), 4);
        DUE.is("20 more", x.move(2), 2);
        x.meal(0, 80, 0);
        DUE.is("20 the most", x.move(0), 5);
        DUE.is("20 the most", x.move(2), 76);
        x.set(3, 9);
        DUE.is("20 by the setting", x.move(2), 80 - 2 * 18);
        x.person(0);
        x.reserve(0, 5);
        DUE.is("20 reserved", x.move(0), -4);
        x.set(3, 1);
        DUE.is("20 the next one", x.move(0), 4);
        x.volunteer(1, 1);
        x.take(0, 4);
        DUE.is("20 carried", x.move(0), 2);
    }

    private static void promise20FreeCells() {
        MealLockers x = new MealLockers();
        x.locker(1, 1);
        x.locker(8, 0);
        x.locker(8, 0);
        x.locker(1, 1);
        x.meal(1, 50, 0);
        DUE.is("20 near", x.move(1), 0);
        DUE.is("20 near", x.move(2), 48);
        x.meal(0, 1, 0);
        DUE.is("20 the near one is full", x.move(1), 3);
        DUE.is("20 the near one is full", x.move(2), 46);
        x.meal(3, 9, 0);
        DUE.is("20 both are full", x.move(1), -4);
        x.pass(1);
        DUE.is("20 one is free now", x.move(1), 0);
        DUE.is("20 one is free now", x.move(2), 46);
    }

    private static void promise20Ways() {
        MealLockers x = new MealLockers();
        x.locker(1, 1);
        x.locker(8, 0);
        x.locker(1, 1);
        x.locker(8, 0);
        x.meal(1, 50, 0);
        DUE.is("20 as far: the lowest locker", x.move(1), 0);
        x.meal(3, 50, 0);
        DUE.is("20 as many: the lowest meal", x.move(0), 0);
        DUE.is("20 its locker", x.move(1), 0);
        x.meal(3, 51, 0);
        DUE.is("20 more", x.move(0), 2);
        DUE.is("20 its locker", x.move(1), 2);
        DUE.is("20 no volunteer is asked for", x.count(3), 0);
    }

    private static void promise21ShareBits() {
        MealLockers x = new MealLockers();
        x.locker(8, 1);
        x.person(0);
        x.volunteer(0, 1);
        DUE.is("21 none", x.shareBits(), -4);
        for (int m = 0; m < 5; m++) {
            x.meal(0, 9, 0);
        }
        x.take(0, 4);
        DUE.is("21 none is gone", x.shareBits(), -4);
        x.fetch(0, x.reserve(0, 0), 0);
        DUE.is("21 all", x.shareBits(), 0x3F800000);
        x.fetch(0, x.reserve(0, 1), 1);
        DUE.is("21 half", x.shareBits(), 0x3F000000);
        x.pass(5);
        DUE.is("21 a third, with a spoilt one", x.shareBits(), 0x3EAAAAAB);
        x.fetch(0, x.reserve(0, 2), 0);
        x.pass(4);
        DUE.is("21 two of five", x.shareBits(), 0x3ECCCCCD);
    }

    private static void promise21AllShares() {
        for (int gone = 1; gone <= 24; gone++) {
            for (int fetched = 0; fetched <= gone; fetched++) {
                MealLockers x = new MealLockers();
                x.locker(8, 1);
                x.person(0);
                for (int m = 0; m < gone; m++) {
                    x.meal(0, 9, 0);
                    x.fetch(0, x.reserve(0, m), m < fetched ? 0 : 1);
                }
                int due = Float.floatToIntBits((float) fetched / (float) gone);
                DUE.is("21 " + fetched + " of " + gone, x.shareBits(), due);
            }
        }
        MealLockers y = new MealLockers();
        y.locker(1, 0);
        y.meal(0, 1, 0);
        y.pass(1);
        DUE.is("21 none of one", y.shareBits(), 0);
    }

    private static void promise22Undo() {
        MealLockers x = new MealLockers();
        DUE.is("22 empty", x.undo(), -2);
        x.locker(2, 1);
        x.meal(0, 9, 0);
        x.person(0);
        DUE.is("22 code", x.reserve(0, 0), 1000);
        Due.write(x, "h1;");
        DUE.is("22 the reservation", x.undo(), 3);
        DUE.is("22 not reserved", x.mealOf(0, 0), 0);
        DUE.is("22 not reserved", x.personOf(0, 3), -4);
        DUE.is("22 the text stays", x.count(12), 3);
        DUE.is("22 the person", x.undo(), 2);
        DUE.is("22 no person", x.count(2), 0);
        DUE.is("22 the meal", x.undo(), 1);
        DUE.is("22 no meal", x.count(1), 0);
        DUE.is("22 nothing brought", x.lockerOf(0, 3), 0);
        DUE.is("22 the locker", x.undo(), 0);
        DUE.is("22 no locker", x.count(0), 0);
        DUE.is("22 empty", x.undo(), -2);
        x.clearText();
        DUE.is("22 texts are no changes", x.count(11), 0);

        MealLockers y = new MealLockers();
        y.locker(2, 1);
        y.locker(2, 0);
        y.volunteer(0, 2);
        y.meal(0, 9, 0);
        y.take(0, 0);
        y.go(0, 1);
        y.pass(1);
        DUE.is("22 arrived", y.lockerOf(1, 2), 1);
        y.undo();
        DUE.is("22 under way", y.volunteerOf(0, 3), 1);
        DUE.is("22 carried", y.mealOf(0, 0), 2);
        DUE.is("22 its cold hours", y.mealOf(0, 2), 9);
        DUE.is("22 no hour of the way", y.volunteerOf(0, 4), 0);
        DUE.is("22 the time", y.count(4), 0);
        y.undo();
        DUE.is("22 there", y.volunteerOf(0, 1), 0);
        y.undo();
        DUE.is("22 in the locker", y.lockerOf(0, 2), 1);
        DUE.is("22 not taken out", y.lockerOf(0, 7), 0);
    }

    private static void promise22HistoryOfFour() {
        MealLockers x = new MealLockers();
        for (int value = 1; value <= 9; value++) {
            x.set(3, value);
            DUE.is("22 states", x.count(11), Math.min(value, 4));
        }
        x.set(3, 10);
        DUE.is("22 an error is no change", x.count(11), 4);
        for (int left = 3; left >= 0; left--) {
            DUE.is("22 left", x.undo(), left);
            DUE.is("22 the value", x.count(16), 5 + left);
        }
        DUE.is("22 the oldest are dropped", x.undo(), -2);
        x.set(3, 7);
        DUE.is("22 one again", x.count(11), 1);
        DUE.is("22 one again", x.undo(), 0);
        DUE.is("22 the value", x.count(16), 5);
    }

    /** What undo, wouldSpoil and fault looked at does not come back by the change after them. */
    private static void promise22ChangesAfterUndo() {
        String[] names = {"locker", "meal", "person", "volunteer", "reserve", "fetch", "take",
            "go", "put", "pass", "set", "play"};
        for (String name : names) {
            MealLockers x = new MealLockers();
            x.locker(4, 1);
            x.locker(4, 0);
            x.person(0);
            x.volunteer(0, 2);
            x.meal(0, 50, 0);
            x.meal(0, 50, 0);
            x.take(0, 1);
            DUE.is("22 code", x.reserve(0, 0), 1000);
            Due.write(x, "h7;");
            x.set(2, 9);
            x.set(3, 5);
            DUE.is("22 undo, then " + name, x.undo(), 3);
            DUE.is("22 no fault", x.fault(0), -4);
            DUE.is("22 would spoil", x.wouldSpoil(60), 3);
            DUE.is("22 " + name, change(x, name), dueOf(name));
            DUE.is("22 undone, and so after " + name, x.count(16), 1);
            DUE.is("22 not undone, after " + name, x.count(15), 9);
            int passed = name.equals("pass") ? 1 : name.equals("play") ? 7 : 0;
            DUE.is("22 the time after " + name, x.count(4), passed);
        }
    }

    private static int change(MealLockers x, String name) {
        switch (name) {
            case "locker": return x.locker(4, 0);
            case "meal": return x.meal(0, 9, 0);
            case "person": return x.person(0);
            case "volunteer": return x.volunteer(0, 1);
            case "reserve": x.person(0); x.meal(0, 9, 0); return x.reserve(1, 2);
            case "fetch": return x.fetch(0, 1000, 0);
            case "take": x.meal(0, 9, 0); return x.take(0, 2);
            case "go": return x.go(0, 1);
            case "put": return x.put(0);
            case "pass": return x.pass(1);
            case "set": return x.set(0, 2);
            default: return x.play();
        }
    }

    private static int dueOf(String name) {
        switch (name) {
            case "locker": return 2;
            case "meal": return 2;
            case "person": return 1;
            case "volunteer": return 1;
            case "reserve": return 1000 + 74 + 7;
            case "take": return 2;
            case "go": return 1;
            case "put": return 1;
            case "set": return 4;
            case "play": return 1;
            default: return 0;
        }
    }
}
