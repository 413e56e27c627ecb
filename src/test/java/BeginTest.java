/** Promises 1 to 5: what there is to begin with. */
public final class BeginTest {
    private static final Due DUE = new Due("BeginTest");

    public static void main(String[] args) {
        promise1NewObject();
        promise2Locker();
        promise3Meal();
        promise3FreeCells();
        promise3TwentyFourMeals();
        promise4Person();
        promise5Volunteer();
        DUE.end();
    }

    private static void promise1NewObject() {
        MealLockers x = new MealLockers();
        for (int what = 0; what <= 12; what++) {
            DUE.is("1 count(" + what + ")", x.count(what), 0);
        }
        DUE.is("1 setting 0", x.count(13), 4);
        DUE.is("1 setting 1", x.count(14), 3);
        DUE.is("1 setting 2", x.count(15), 24);
        DUE.is("1 setting 3", x.count(16), 1);
        DUE.is("1 mealOf", x.mealOf(0, 0), -1);
        DUE.is("1 lockerOf", x.lockerOf(0, 0), -1);
        DUE.is("1 personOf", x.personOf(0, 0), -1);
        DUE.is("1 volunteerOf", x.volunteerOf(0, 0), -1);
        DUE.is("1 undo", x.undo(), -2);
        DUE.is("1 shareBits", x.shareBits(), -4);
        DUE.is("1 move", x.move(0), -4);
        DUE.is("1 wouldSpoil", x.wouldSpoil(99), 0);
        DUE.is("1 fault", x.fault(0), -4);
        DUE.is("1 constants", MealLockers.INVALID_ARGUMENT, -1);
        DUE.is("1 constants", MealLockers.NOT_POSSIBLE, -2);
        DUE.is("1 constants", MealLockers.LIMIT_REACHED, -3);
        DUE.is("1 constants", MealLockers.NOT_FOUND, -4);
    }

    private static void promise2Locker() {
        MealLockers x = new MealLockers();
        DUE.is("2 no cells", x.locker(0, 0), -1);
        DUE.is("2 nine cells", x.locker(9, 0), -1);
        DUE.is("2 cold 2", x.locker(1, 2), -1);
        DUE.is("2 cold -1", x.locker(1, -1), -1);
        DUE.is("2 far out", x.locker(Integer.MAX_VALUE, Integer.MIN_VALUE), -1);
        DUE.is("2 none was added", x.count(0), 0);
        DUE.is("2 no change", x.count(11), 0);
        DUE.is("2 first", x.locker(1, 0), 0);
        DUE.is("2 second", x.locker(8, 1), 1);
        DUE.is("2 cells", x.lockerOf(0, 0), 1);
        DUE.is("2 cells", x.lockerOf(1, 0), 8);
        DUE.is("2 not cold", x.lockerOf(0, 1), 0);
        DUE.is("2 cold", x.lockerOf(1, 1), 1);
        DUE.is("2 third", x.locker(3, 1), 2);
        DUE.is("2 fourth", x.locker(3, 1), 3);
        DUE.is("2 fifth", x.locker(3, 1), 4);
        DUE.is("2 sixth", x.locker(3, 1), -3);
        DUE.is("2 sixth, out of range", x.locker(9, 1), -1);
        DUE.is("2 five", x.count(0), 5);
        DUE.is("2 errors are no changes", x.count(11), 4);
        DUE.is("2 undo", x.undo(), 3);
        DUE.is("2 four", x.count(0), 4);
        DUE.is("2 fifth again", x.locker(2, 0), 4);
        DUE.is("2 fifth again", x.lockerOf(4, 1), 0);
    }

    private static void promise3Meal() {
        MealLockers x = new MealLockers();
        DUE.is("3 no locker", x.meal(0, 9, 0), -1);
        x.locker(2, 1);
        DUE.is("3 locker -1", x.meal(-1, 9, 0), -1);
        DUE.is("3 locker 1", x.meal(1, 9, 0), -1);
        DUE.is("3 hours 0", x.meal(0, 0, 0), -1);
        DUE.is("3 hours 100", x.meal(0, 100, 0), -1);
        DUE.is("3 allergens -1", x.meal(0, 9, -1), -1);
        DUE.is("3 allergens 32", x.meal(0, 9, 32), -1);
        DUE.is("3 least", x.meal(0, 1, 0), 0);
        DUE.is("3 most", x.meal(0, 99, 31), 1);
        DUE.is("3 stage", x.mealOf(1, 0), 0);
        DUE.is("3 locker", x.mealOf(1, 1), 0);
        DUE.is("3 hours", x.mealOf(0, 2), 1);
        DUE.is("3 hours", x.mealOf(1, 2), 99);
        DUE.is("3 allergens", x.mealOf(1, 3), 31);
        DUE.is("3 brought", x.lockerOf(0, 3), 2);
        DUE.is("3 meals in it", x.lockerOf(0, 2), 3);
    }

    private static void promise3FreeCells() {
        MealLockers x = new MealLockers();
        x.locker(1, 0);
        x.person(0);
        x.volunteer(0, 1);
        x.meal(0, 2, 0);
        DUE.is("3 full", x.meal(0, 9, 0), -2);
        DUE.is("3 full and out of range", x.meal(0, 0, 0), -1);
        DUE.is("3 brought", x.lockerOf(0, 3), 1);
        x.pass(1);
        DUE.is("3 free by spoiling", x.meal(0, 50, 0), 1);
        DUE.is("3 full by a reserved one", x.reserve(0, 1), 1000 + 37 + 11);
        DUE.is("3 full by a reserved one", x.meal(0, 9, 0), -2);
        x.fetch(0, 1048, 0);
        DUE.is("3 free by fetching", x.meal(0, 50, 0), 2);
        x.take(0, 2);
        DUE.is("3 free by taking", x.meal(0, 50, 0), 3);
    }

    private static void promise3TwentyFourMeals() {
        MealLockers x = new MealLockers();
        x.locker(8, 0);
        for (int m = 0; m < 24; m++) {
            DUE.is("3 meal " + m, x.meal(0, 2, 0), m);
            if (m % 8 == 7 && m < 23) {
                DUE.is("3 eight spoil", x.pass(1), 8);
            }
        }
        DUE.is("3 full, and 24", x.meal(0, 2, 0), -2);
        DUE.is("3 eight spoil", x.pass(1), 8);
        DUE.is("3 24, gone ones count", x.meal(0, 2, 0), -3);
        DUE.is("3 out of range, and 24", x.meal(0, 2, 32), -1);
        DUE.is("3 set of all", x.count(9), 24);
        DUE.is("3 count", x.count(1), 24);
    }

    private static void promise4Person() {
        MealLockers x = new MealLockers();
        DUE.is("4 allergies -1", x.person(-1), -1);
        DUE.is("4 allergies 32", x.person(32), -1);
        for (int p = 0; p < 8; p++) {
            DUE.is("4 person " + p, x.person(31 - p), p);
        }
        DUE.is("4 ninth", x.person(0), -3);
        DUE.is("4 ninth, out of range", x.person(32), -1);
        for (int p = 0; p < 8; p++) {
            DUE.is("4 allergies", x.personOf(p, 0), 31 - p);
            DUE.is("4 strikes", x.personOf(p, 1), 0);
            DUE.is("4 barred", x.personOf(p, 2), 0);
            DUE.is("4 meal", x.personOf(p, 3), -4);
            DUE.is("4 fetched", x.personOf(p, 4), 0);
            DUE.is("4 lapsed", x.personOf(p, 5), 0);
        }
        DUE.is("4 count", x.count(2), 8);
    }

    private static void promise5Volunteer() {
        MealLockers x = new MealLockers();
        DUE.is("5 no locker", x.volunteer(0, 1), -1);
        x.locker(1, 0);
        x.locker(1, 0);
        DUE.is("5 locker -1", x.volunteer(-1, 1), -1);
        DUE.is("5 locker 2", x.volunteer(2, 1), -1);
        DUE.is("5 room 0", x.volunteer(0, 0), -1);
        DUE.is("5 room 5", x.volunteer(0, 5), -1);
        DUE.is("5 first", x.volunteer(1, 4), 0);
        DUE.is("5 second", x.volunteer(0, 1), 1);
        DUE.is("5 third", x.volunteer(0, 2), 2);
        DUE.is("5 fourth", x.volunteer(0, 2), -3);
        DUE.is("5 fourth, out of range", x.volunteer(0, 5), -1);
        DUE.is("5 room", x.volunteerOf(0, 0), 4);
        DUE.is("5 locker", x.volunteerOf(0, 1), 1);
        DUE.is("5 meals", x.volunteerOf(0, 2), 0);
        DUE.is("5 hours left", x.volunteerOf(0, 3), 0);
        DUE.is("5 hours so far", x.volunteerOf(0, 4), 0);
        DUE.is("5 count", x.count(3), 3);
    }
}
