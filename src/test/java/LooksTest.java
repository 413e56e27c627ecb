/** Promises 13 to 17: what there is. */
public final class LooksTest {
    private static final Due DUE = new Due("LooksTest");

    public static void main(String[] args) {
        promise13MealOf();
        promise14LockerOf();
        promise15PersonOf();
        promise16VolunteerOf();
        promise17Count();
        looksChangeNothing();
        DUE.end();
    }

    /** Two lockers, a volunteer with a meal, and one meal at each stage. */
    private static MealLockers allStages() {
        MealLockers x = new MealLockers();
        x.locker(8, 1);
        x.locker(2, 0);
        x.person(1);
        x.person(2);
        x.volunteer(0, 3);
        x.meal(0, 40, 12);
        x.meal(0, 40, 2);
        x.meal(0, 40, 0);
        x.meal(0, 40, 16);
        x.meal(0, 40, 8);
        x.meal(1, 2, 5);
        x.take(0, 2);
        x.fetch(0, x.reserve(1, 3), 0);
        x.fetch(0, x.reserve(1, 4), 1);
        x.pass(1);
        x.reserve(0, 1);
        x.go(0, 1);
        return x;
    }

    private static void promise13MealOf() {
        MealLockers x = allStages();
        int[][] due = {
            {0, 0, 39, 12, -4, -4, -4},
            {1, 0, 39, 2, 1000 + 37 + 11, 0, -4},
            {2, 0, 38, 0, -4, -4, 0},
            {3, 0, 40, 16, -4, 1, -4},
            {4, 0, 40, 8, -4, 1, -4},
            {5, 1, 0, 5, -4, -4, -4},
        };
        for (int m = 0; m < due.length; m++) {
            for (int what = 0; what < 7; what++) {
                DUE.is("13 mealOf(" + m + ", " + what + ")", x.mealOf(m, what), due[m][what]);
            }
        }
        DUE.is("13 what -1", x.mealOf(0, -1), -1);
        DUE.is("13 what 7", x.mealOf(0, 7), -1);
        DUE.is("13 what 8", x.mealOf(1, 8), -1);
        DUE.is("13 meal -1", x.mealOf(-1, 0), -1);
        DUE.is("13 meal 6", x.mealOf(6, 0), -1);
        DUE.is("13 meal 6, code", x.mealOf(6, 4), -1);
        DUE.is("13 meal far out", x.mealOf(Integer.MAX_VALUE, 0), -1);
        DUE.is("13 meal far out", x.mealOf(Integer.MIN_VALUE, 6), -1);
    }

    private static void promise14LockerOf() {
        MealLockers x = allStages();
        int[] first = {8, 1, 3, 5, 0, 1, 1, 1, 0};
        int[] second = {2, 0, 0, 1, 0, 0, 0, 0, 1};
        for (int what = 0; what < 9; what++) {
            DUE.is("14 lockerOf(0, " + what + ")", x.lockerOf(0, what), first[what]);
            DUE.is("14 lockerOf(1, " + what + ")", x.lockerOf(1, what), second[what]);
        }
        x.pass(1);
        DUE.is("14 put in", x.lockerOf(1, 4), 1);
        DUE.is("14 meals", x.lockerOf(1, 2), 4);
        DUE.is("14 what -1", x.lockerOf(0, -1), -1);
        DUE.is("14 what 9", x.lockerOf(0, 9), -1);
        DUE.is("14 locker -1", x.lockerOf(-1, 0), -1);
        DUE.is("14 locker 2", x.lockerOf(2, 0), -1);
        DUE.is("14 locker far out", x.lockerOf(Integer.MIN_VALUE, 2), -1);
    }

    private static void promise15PersonOf() {
        MealLockers x = allStages();
        int[] first = {1, 0, 0, 1, 0, 0};
        int[] second = {2, 0, 0, -4, 1, 0};
        for (int what = 0; what < 6; what++) {
            DUE.is("15 personOf(0, " + what + ")", x.personOf(0, what), first[what]);
            DUE.is("15 personOf(1, " + what + ")", x.personOf(1, what), second[what]);
        }
        x.set(1, 1);
        x.pass(6);
        int[] barred = {1, 0, 22, -4, 0, 1};
        for (int what = 0; what < 6; what++) {
            DUE.is("15 barred, personOf(0, " + what + ")", x.personOf(0, what), barred[what]);
        }
        x.pass(30);
        DUE.is("15 not below 0", x.personOf(0, 2), 0);
        DUE.is("15 what -1", x.personOf(0, -1), -1);
        DUE.is("15 what 6", x.personOf(0, 6), -1);
        DUE.is("15 person -1", x.personOf(-1, 3), -1);
        DUE.is("15 person 2", x.personOf(2, 3), -1);
        DUE.is("15 person far out", x.personOf(Integer.MAX_VALUE, 0), -1);
    }

    private static void promise16VolunteerOf() {
        MealLockers x = allStages();
        int[] due = {3, 1, 4, 1, 0};
        for (int what = 0; what < 5; what++) {
            DUE.is("16 volunteerOf(0, " + what + ")", x.volunteerOf(0, what), due[what]);
        }
        x.pass(3);
        int[] there = {3, 1, 0, 0, 1};
        for (int what = 0; what < 5; what++) {
            DUE.is("16 there, volunteerOf(0, " + what + ")", x.volunteerOf(0, what), there[what]);
        }
        DUE.is("16 what -1", x.volunteerOf(0, -1), -1);
        DUE.is("16 what 5", x.volunteerOf(0, 5), -1);
        DUE.is("16 volunteer -1", x.volunteerOf(-1, 0), -1);
        DUE.is("16 volunteer 1", x.volunteerOf(1, 0), -1);
        DUE.is("16 volunteer far out", x.volunteerOf(Integer.MAX_VALUE, 2), -1);
    }

    private static void promise17Count() {
        MealLockers x = allStages();
        Due.write(x, "h1");
        x.set(3, 7);
        int[] due = {2, 6, 2, 1, 1, 2, 1, 1, 1, 1, 1, 4, 2, 4, 3, 24, 7};
        for (int what = 0; what < due.length; what++) {
            DUE.is("17 count(" + what + ")", x.count(what), due[what]);
        }
        DUE.is("17 what -1", x.count(-1), -1);
        DUE.is("17 what 17", x.count(17), -1);
        DUE.is("17 what far out", x.count(Integer.MAX_VALUE), -1);
        DUE.is("17 what far out", x.count(Integer.MIN_VALUE), -1);
    }

    private static void looksChangeNothing() {
        MealLockers x = new MealLockers();
        x.locker(2, 0);
        x.meal(0, 9, 0);
        x.person(0);
        x.volunteer(0, 1);
        Due.write(x, "r0,0;h9;");
        for (int round = 0; round < 2; round++) {
            x.mealOf(0, 2);
            x.lockerOf(0, 2);
            x.personOf(0, 2);
            x.volunteerOf(0, 2);
            x.count(5);
            DUE.is("advice", x.advice(0), 0);
            DUE.is("wouldSpoil", x.wouldSpoil(99), 1);
            DUE.is("move", x.move(0), -4);
            DUE.is("shareBits", x.shareBits(), -4);
            DUE.is("fault", x.fault(0), -4);
            DUE.is("the history", x.count(11), 4);
            DUE.is("the time", x.count(4), 0);
            DUE.is("the cold hours", x.mealOf(0, 2), 9);
            DUE.is("the stage", x.mealOf(0, 0), 0);
        }
    }
}
