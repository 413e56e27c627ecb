/** Promises 8 to 12: volunteers, hours and settings. */
public final class VolunteersTest {
    private static final Due DUE = new Due("VolunteersTest");

    public static void main(String[] args) {
        promise8Take();
        promise9Go();
        promise9ArrivingInFullLocker();
        promise9OrderOfArriving();
        promise10Put();
        promise11Pass();
        promise11OrderInAnHour();
        promise11Limit();
        promise12Set();
        promise12OnTheWay();
        DUE.end();
    }

    private static void promise8Take() {
        MealLockers x = new MealLockers();
        x.locker(4, 1);
        x.locker(4, 0);
        x.person(0);
        for (int m = 0; m < 4; m++) {
            x.meal(0, 50, 0);
        }
        x.meal(1, 50, 0);
        DUE.is("8 no volunteer", x.take(0, 0), -1);
        x.volunteer(0, 2);
        DUE.is("8 volunteer -1", x.take(-1, 0), -1);
        DUE.is("8 volunteer 1", x.take(1, 0), -1);
        DUE.is("8 meal -1", x.take(0, -1), -1);
        DUE.is("8 meal 5", x.take(0, 5), -1);
        DUE.is("8 another locker", x.take(0, 4), -2);
        x.reserve(0, 1);
        DUE.is("8 reserved", x.take(0, 1), -2);
        DUE.is("8 first", x.take(0, 2), 1);
        DUE.is("8 stage", x.mealOf(2, 0), 2);
        DUE.is("8 locker in which it was last", x.mealOf(2, 1), 0);
        DUE.is("8 volunteer", x.mealOf(2, 6), 0);
        DUE.is("8 not in the locker", x.lockerOf(0, 2), 11);
        DUE.is("8 taken out", x.lockerOf(0, 7), 1);
        DUE.is("8 taken twice", x.take(0, 2), -2);
        DUE.is("8 second", x.take(0, 0), 2);
        DUE.is("8 no room", x.take(0, 3), -2);
        DUE.is("8 no room, and no meal", x.take(0, 9), -1);
        DUE.is("8 meals", x.volunteerOf(0, 2), 5);
        DUE.is("8 carried", x.count(6), 2);
        DUE.is("8 in lockers", x.count(5), 3);
        x.volunteer(0, 1);
        DUE.is("8 from another volunteer", x.take(1, 0), -2);
        x.go(1, 1);
        DUE.is("8 under way, from behind", x.take(1, 3), -2);
        DUE.is("8 under way, from ahead", x.take(1, 4), -2);
        x.pass(1);
        DUE.is("8 there", x.take(1, 4), 1);
    }

    private static void promise9Go() {
        MealLockers x = new MealLockers();
        for (int l = 0; l < 5; l++) {
            x.locker(2, l == 4 ? 1 : 0);
        }
        DUE.is("9 no volunteer", x.go(0, 0), -1);
        x.volunteer(1, 2);
        DUE.is("9 volunteer 1", x.go(1, 0), -1);
        DUE.is("9 volunteer -1", x.go(-1, 0), -1);
        DUE.is("9 locker 5", x.go(0, 5), -1);
        DUE.is("9 locker -1", x.go(0, -1), -1);
        DUE.is("9 is there", x.go(0, 1), -2);
        x.meal(1, 20, 0);
        x.take(0, 0);
        x.set(3, 2);
        x.pass(1);
        DUE.is("9 arriving", x.go(0, 4), 7);
        DUE.is("9 to which the way leads", x.volunteerOf(0, 1), 4);
        DUE.is("9 hours left", x.volunteerOf(0, 3), 6);
        DUE.is("9 hours so far", x.volunteerOf(0, 4), 0);
        DUE.is("9 under way, to another", x.go(0, 0), -2);
        DUE.is("9 under way, there", x.go(0, 4), -2);
        DUE.is("9 under way, no locker", x.go(0, 5), -1);
        DUE.is("9 under way", x.put(0), -2);
        x.pass(5);
        DUE.is("9 hours left", x.volunteerOf(0, 3), 1);
        DUE.is("9 hours so far", x.volunteerOf(0, 4), 5);
        DUE.is("9 under way for one more hour", x.go(0, 0), -2);
        DUE.is("9 under way for one more hour", x.put(0), -2);
        DUE.is("9 still with the volunteer", x.mealOf(0, 0), 2);
        DUE.is("9 cold hours", x.mealOf(0, 2), 20 - 2 * 6);
        x.pass(1);
        DUE.is("9 hours left", x.volunteerOf(0, 3), 0);
        DUE.is("9 hours so far", x.volunteerOf(0, 4), 6);
        DUE.is("9 put in", x.mealOf(0, 0), 0);
        DUE.is("9 its locker", x.mealOf(0, 1), 4);
        DUE.is("9 no volunteer", x.mealOf(0, 6), -4);
        DUE.is("9 cold hours", x.mealOf(0, 2), 6);
        DUE.is("9 locker's put in", x.lockerOf(4, 4), 1);
        DUE.is("9 locker's brought", x.lockerOf(4, 3), 0);
        DUE.is("9 locker's meals", x.lockerOf(4, 2), 1);
        x.pass(2);
        DUE.is("9 in the cold", x.mealOf(0, 2), 4);
        DUE.is("9 hours so far", x.volunteerOf(0, 4), 6);
        DUE.is("9 back, without meals", x.go(0, 3), 11);
        x.pass(1);
        DUE.is("9 hours so far", x.volunteerOf(0, 4), 7);
        x.pass(3);
        DUE.is("9 hours so far", x.volunteerOf(0, 4), 8);
    }

    private static void promise9ArrivingInFullLocker() {
        MealLockers x = new MealLockers();
        x.locker(4, 0);
        x.locker(3, 1);
        x.volunteer(0, 4);
        for (int m = 0; m < 4; m++) {
            x.meal(0, 50, 0);
        }
        x.meal(1, 4, 0);
        x.take(0, 3);
        x.take(0, 1);
        x.take(0, 0);
        x.go(0, 1);
        x.pass(1);
        DUE.is("9 by the numbers of meals", x.lockerOf(1, 2), 1 + 2 + 16);
        DUE.is("9 stays with the volunteer", x.volunteerOf(0, 2), 8);
        DUE.is("9 put in", x.lockerOf(1, 4), 2);
        DUE.is("9 locker in which it was last", x.mealOf(3, 1), 0);
        DUE.is("10 none could be put in", x.put(0), -2);
        x.pass(2);
        DUE.is("9 outside it loses 2", x.mealOf(3, 2), 44);
        x.pass(1);
        DUE.is("9 not put in by itself", x.volunteerOf(0, 2), 8);
        DUE.is("10 later", x.put(0), 1);
        DUE.is("10 put in", x.lockerOf(1, 2), 1 + 2 + 8);
        DUE.is("10 put in so far", x.lockerOf(1, 4), 3);
        DUE.is("10 its locker", x.mealOf(3, 1), 1);
        DUE.is("10 nothing to put in", x.put(0), -2);
    }

    private static void promise9OrderOfArriving() {
        MealLockers x = new MealLockers();
        x.locker(1, 0);
        x.locker(1, 0);
        x.locker(1, 0);
        x.meal(0, 50, 0);
        x.meal(2, 50, 0);
        x.volunteer(2, 1);
        x.volunteer(0, 1);
        x.take(0, 1);
        x.take(1, 0);
        x.go(1, 1);
        x.go(0, 1);
        x.pass(1);
        DUE.is("9 the lowest volunteer first", x.lockerOf(1, 2), 2);
        DUE.is("9 the other keeps it", x.volunteerOf(1, 2), 1);
    }

    private static void promise10Put() {
        MealLockers x = new MealLockers();
        x.locker(3, 0);
        x.meal(0, 50, 0);
        x.meal(0, 50, 0);
        x.meal(0, 50, 0);
        DUE.is("10 no volunteer", x.put(0), -1);
        x.volunteer(0, 3);
        x.volunteer(0, 3);
        DUE.is("10 volunteer -1", x.put(-1), -1);
        DUE.is("10 volunteer 2", x.put(2), -1);
        DUE.is("10 without meals", x.put(0), -2);
        x.take(0, 2);
        x.take(0, 1);
        x.take(1, 0);
        x.meal(0, 50, 0);
        x.meal(0, 50, 0);
        DUE.is("10 one cell", x.put(0), 1);
        DUE.is("10 the lowest meal", x.lockerOf(0, 2), 2 + 8 + 16);
        DUE.is("10 no cell", x.put(1), -2);
        DUE.is("10 put in", x.lockerOf(0, 4), 1);
        DUE.is("10 taken out", x.lockerOf(0, 7), 3);

        MealLockers y = new MealLockers();
        y.locker(3, 0);
        y.meal(0, 50, 0);
        y.meal(0, 50, 0);
        y.volunteer(0, 3);
        y.take(0, 0);
        y.take(0, 1);
        DUE.is("10 two", y.put(0), 2);
    }

    private static void promise11Pass() {
        MealLockers x = new MealLockers();
        x.locker(4, 1);
        x.locker(4, 0);
        x.volunteer(1, 4);
        x.meal(0, 5, 0);
        x.meal(1, 5, 0);
        x.meal(1, 4, 0);
        x.meal(1, 7, 0);
        x.take(0, 3);
        DUE.is("11 hours 0", x.pass(0), -1);
        DUE.is("11 hours -1", x.pass(-1), -1);
        DUE.is("11 hours 100", x.pass(100), -1);
        DUE.is("11 the time", x.count(4), 0);
        DUE.is("11 none", x.pass(1), 0);
        DUE.is("11 in the cold", x.mealOf(0, 2), 4);
        DUE.is("11 elsewhere", x.mealOf(1, 2), 3);
        DUE.is("11 carried", x.mealOf(3, 2), 5);
        DUE.is("11 with 0 left", x.pass(1), 1);
        DUE.is("11 spoilt", x.mealOf(2, 0), 5);
        DUE.is("11 fewer than 0 is 0", x.pass(1), 1);
        DUE.is("11 spoilt", x.mealOf(1, 0), 5);
        DUE.is("11 it has 0 then", x.mealOf(1, 2), 0);
        DUE.is("11 spoilt in it", x.lockerOf(1, 8), 2);
        DUE.is("11 one carried, one in the cold", x.pass(2), 2);
        DUE.is("11 carried", x.mealOf(3, 0), 5);
        DUE.is("11 carried", x.mealOf(3, 2), 0);
        DUE.is("11 last locker", x.mealOf(3, 1), 1);
        DUE.is("11 no volunteer", x.mealOf(3, 6), -4);
        DUE.is("11 not spoilt in the locker", x.lockerOf(1, 8), 2);
        DUE.is("11 spoilt in the cold one", x.lockerOf(0, 8), 1);
        DUE.is("11 spoilt so far", x.count(9), 4);
        DUE.is("11 the volunteer has none", x.volunteerOf(0, 2), 0);
        DUE.is("11 none in lockers", x.count(5), 0);
        DUE.is("11 none carried", x.count(6), 0);
        DUE.is("11 the time", x.count(4), 5);
        DUE.is("11 nothing left", x.pass(99), 0);
    }

    /** A cell that spoiling leaves free takes a meal in the same hour; a lapse comes after that. */
    private static void promise11OrderInAnHour() {
        MealLockers x = new MealLockers();
        x.locker(1, 1);
        x.locker(1, 0);
        x.volunteer(1, 1);
        x.person(0);
        x.meal(0, 1, 0);
        x.meal(1, 3, 0);
        x.take(0, 1);
        x.go(0, 0);
        x.reserve(0, 0);
        x.set(0, 1);
        DUE.is("11 spoils", x.pass(1), 1);
        DUE.is("11 before arriving", x.lockerOf(0, 2), 2);
        DUE.is("11 before lapsing", x.personOf(0, 5), 0);
        DUE.is("11 elsewhere in the hour of arriving", x.mealOf(1, 2), 1);

        MealLockers y = new MealLockers();
        y.locker(1, 1);
        y.locker(1, 0);
        y.volunteer(1, 1);
        y.meal(1, 2, 0);
        y.take(0, 0);
        y.go(0, 0);
        DUE.is("11 spoils ahead of arriving", y.pass(1), 1);
        DUE.is("11 not in the locker", y.lockerOf(0, 8), 0);
        DUE.is("11 not put in", y.lockerOf(0, 4), 0);
    }

    private static void promise11Limit() {
        MealLockers x = new MealLockers();
        for (int i = 0; i < 50; i++) {
            DUE.is("11 pass", x.pass(99), 0);
        }
        DUE.is("11 the time", x.count(4), 4950);
        DUE.is("11 above 5000", x.pass(51), -3);
        DUE.is("11 above 5000, out of range", x.pass(100), -1);
        DUE.is("11 the time", x.count(4), 4950);
        DUE.is("11 to 5000", x.pass(50), 0);
        DUE.is("11 the time", x.count(4), 5000);
        DUE.is("11 no more", x.pass(1), -3);
        x.locker(1, 0);
        x.locker(1, 0);
        x.volunteer(0, 1);
        DUE.is("9 beyond the last hour", x.go(0, 1), 5001);
    }

    private static void promise12Set() {
        int[] first = {4, 3, 24, 1};
        int[] most = {48, 9, 99, 9};
        MealLockers x = new MealLockers();
        for (int what = 0; what < 4; what++) {
            DUE.is("12 value 0", x.set(what, 0), -1);
            DUE.is("12 value -1", x.set(what, -1), -1);
            DUE.is("12 value above", x.set(what, most[what] + 1), -1);
            DUE.is("12 unchanged", x.count(13 + what), first[what]);
            DUE.is("12 most", x.set(what, most[what]), first[what]);
            DUE.is("12 most", x.count(13 + what), most[what]);
            DUE.is("12 least", x.set(what, 1), most[what]);
            DUE.is("12 least", x.count(13 + what), 1);
        }
        DUE.is("12 what -1", x.set(-1, 1), -1);
        DUE.is("12 what 4", x.set(4, 1), -1);
        DUE.is("12 what far out", x.set(Integer.MIN_VALUE, 1), -1);
        DUE.is("12 what far out", x.set(Integer.MAX_VALUE, 1), -1);
        DUE.is("12 the same is a change, too", x.set(0, 1), 1);
        DUE.is("12 undo", x.undo(), 3);
        DUE.is("12 undo", x.undo(), 2);
        DUE.is("12 undone", x.count(16), 9);
    }

    private static void promise12OnTheWay() {
        MealLockers x = new MealLockers();
        x.locker(1, 0);
        x.locker(1, 0);
        x.volunteer(0, 1);
        DUE.is("12 arriving", x.go(0, 1), 1);
        x.set(3, 9);
        DUE.is("12 as told", x.volunteerOf(0, 3), 1);
        x.pass(1);
        DUE.is("12 as told", x.volunteerOf(0, 3), 0);
        DUE.is("12 then by the setting", x.go(0, 0), 10);
    }
}
