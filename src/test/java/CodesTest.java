/** Promises 6 and 7: codes; and how reservations lapse, strike and bar. */
public final class CodesTest {
    private static final Due DUE = new Due("CodesTest");

    public static void main(String[] args) {
        promise6Reserve();
        promise6Allergens();
        promise6Code();
        promise6NotInLocker();
        promise7Fetch();
        promise7Refuse();
        promise7SameCode();
        lapsing();
        barring();
        spoilingIsNoStrike();
        DUE.end();
    }

    private static void promise6Reserve() {
        MealLockers x = new MealLockers();
        x.locker(4, 1);
        x.meal(0, 50, 0);
        x.meal(0, 50, 0);
        DUE.is("6 no person", x.reserve(0, 0), -1);
        x.person(0);
        x.person(0);
        DUE.is("6 person -1", x.reserve(-1, 0), -1);
        DUE.is("6 person 2", x.reserve(2, 0), -1);
        DUE.is("6 meal -1", x.reserve(0, -1), -1);
        DUE.is("6 meal 2", x.reserve(0, 2), -1);
        DUE.is("6 not reserved", x.mealOf(1, 4), -4);
        DUE.is("6 code", x.reserve(1, 1), 1000 + 37 + 7);
        DUE.is("6 stage", x.mealOf(1, 0), 1);
        DUE.is("6 code", x.mealOf(1, 4), 1044);
        DUE.is("6 person", x.mealOf(1, 5), 1);
        DUE.is("6 its meal", x.personOf(1, 3), 1);
        DUE.is("6 reservations", x.count(10), 1);
        DUE.is("6 it is in the locker", x.lockerOf(0, 2), 3);
        DUE.is("6 it is in lockers", x.count(5), 2);
        DUE.is("6 somebody has it", x.reserve(0, 1), -2);
        DUE.is("6 the same one again", x.reserve(1, 1), -2);
        DUE.is("6 has a reservation", x.reserve(1, 0), -2);
        DUE.is("6 INVALID_ARGUMENT first", x.reserve(1, 2), -1);
        DUE.is("6 the other one", x.reserve(0, 0), 1000);
        DUE.is("6 reservations", x.count(10), 2);
        x.meal(0, 50, 0);
        DUE.is("6 has a reservation, of meal 0", x.reserve(0, 2), -2);
        DUE.is("6 its meal", x.personOf(0, 3), 0);
    }

    private static void promise6Allergens() {
        MealLockers x = new MealLockers();
        x.locker(4, 1);
        x.meal(0, 50, 6);
        x.person(4);
        x.person(25);
        x.person(31);
        DUE.is("6 one allergen", x.reserve(0, 0), -2);
        DUE.is("6 all", x.reserve(2, 0), -2);
        DUE.is("6 none shared", x.reserve(1, 0), 1007);
    }

    private static void promise6Code() {
        MealLockers x = new MealLockers();
        x.locker(8, 1);
        for (int p = 0; p < 8; p++) {
            x.person(0);
        }
        for (int i = 0; i < 8; i++) {
            x.pass(99);
        }
        x.pass(21);
        DUE.is("6 time", x.count(4), 813);
        x.meal(0, 99, 0);
        x.meal(0, 99, 0);
        DUE.is("6 below 9000", x.reserve(0, 0), 1000 + 8943);
        DUE.is("6 below 9000", x.reserve(2, 1), 1000 + 8994);
        x.fetch(0, 9943, 0);
        x.fetch(0, 9994, 0);
        x.pass(1);
        x.meal(0, 99, 0);
        DUE.is("6 above 9000", x.reserve(7, 2), 1000 + 74 + 8954 + 49 - 9000);
        DUE.is("6 fetched with it", x.fetch(0, 1077, 0), 2);
        x.pass(4);
        x.meal(0, 99, 0);
        DUE.is("6 above 9000", x.reserve(0, 3), 1000 + 111 + 8998 - 9000);
    }

    private static void promise6NotInLocker() {
        MealLockers x = new MealLockers();
        x.locker(4, 1);
        x.volunteer(0, 4);
        x.person(0);
        x.person(0);
        x.meal(0, 2, 0);
        x.meal(0, 50, 0);
        x.meal(0, 50, 0);
        x.meal(0, 50, 0);
        x.take(0, 1);
        DUE.is("6 carried", x.reserve(0, 1), -2);
        x.pass(2);
        DUE.is("6 spoilt", x.reserve(0, 0), -2);
        DUE.is("6 code", x.reserve(0, 2), 1000 + 74 + 22);
        x.fetch(0, 1096, 0);
        DUE.is("6 fetched", x.reserve(0, 2), -2);
        DUE.is("6 code", x.reserve(0, 3), 1000 + 111 + 22);
        x.fetch(0, 1133, 1);
        DUE.is("6 refused", x.reserve(1, 3), -2);
    }

    private static void promise7Fetch() {
        MealLockers x = new MealLockers();
        x.locker(4, 1);
        x.locker(4, 0);
        x.meal(0, 50, 0);
        x.person(0);
        x.reserve(0, 0);
        DUE.is("7 locker -1", x.fetch(-1, 1000, 0), -1);
        DUE.is("7 locker 2", x.fetch(2, 1000, 0), -1);
        DUE.is("7 code 999", x.fetch(0, 999, 0), -1);
        DUE.is("7 code 10000", x.fetch(0, 10000, 0), -1);
        DUE.is("7 refused -1", x.fetch(0, 1000, -1), -1);
        DUE.is("7 refused 2", x.fetch(0, 1000, 2), -1);
        DUE.is("7 another code", x.fetch(0, 1001, 0), -2);
        DUE.is("7 the greatest code", x.fetch(0, 9999, 0), -2);
        DUE.is("7 another locker", x.fetch(1, 1000, 0), -2);
        x.pass(3);
        DUE.is("7 fetched", x.fetch(0, 1000, 0), 0);
        DUE.is("7 stage", x.mealOf(0, 0), 3);
        DUE.is("7 locker", x.mealOf(0, 1), 0);
        DUE.is("7 cold hours", x.mealOf(0, 2), 47);
        DUE.is("7 no code", x.mealOf(0, 4), -4);
        DUE.is("7 person", x.mealOf(0, 5), 0);
        DUE.is("7 not in the locker", x.lockerOf(0, 2), 0);
        DUE.is("7 locker's fetched", x.lockerOf(0, 5), 1);
        DUE.is("7 locker's refused", x.lockerOf(0, 6), 0);
        DUE.is("7 locker's taken out", x.lockerOf(0, 7), 0);
        DUE.is("7 person's fetched", x.personOf(0, 4), 1);
        DUE.is("7 person has none", x.personOf(0, 3), -4);
        DUE.is("7 fetched so far", x.count(7), 1);
        DUE.is("7 reservations", x.count(10), 0);
        DUE.is("7 gone", x.fetch(0, 1000, 0), -2);
        x.pass(90);
        DUE.is("7 it keeps its cold hours", x.mealOf(0, 2), 47);
        DUE.is("7 it does not lapse", x.personOf(0, 5), 0);
        DUE.is("7 it does not spoil", x.count(9), 0);
    }

    private static void promise7Refuse() {
        MealLockers x = new MealLockers();
        x.locker(4, 1);
        x.meal(0, 50, 0);
        x.meal(0, 50, 0);
        x.person(0);
        x.reserve(0, 0);
        DUE.is("7 refused", x.fetch(0, 1000, 1), 0);
        DUE.is("7 stage", x.mealOf(0, 0), 4);
        DUE.is("7 person", x.mealOf(0, 5), 0);
        DUE.is("7 no code", x.mealOf(0, 4), -4);
        DUE.is("7 locker's fetched", x.lockerOf(0, 5), 0);
        DUE.is("7 locker's refused", x.lockerOf(0, 6), 1);
        DUE.is("7 person's fetched", x.personOf(0, 4), 0);
        DUE.is("7 no strike", x.personOf(0, 1), 0);
        DUE.is("7 not lapsed", x.personOf(0, 5), 0);
        DUE.is("7 refused so far", x.count(8), 1);
        DUE.is("7 fetched so far", x.count(7), 0);
        DUE.is("7 can reserve again", x.reserve(0, 1), 1037);
    }

    /** 37 * 1 + 7 * 1 = 11 * 4: meal 0 of person 0 at the hour 4, and meal 1 of person 1 at 0. */
    private static void promise7SameCode() {
        MealLockers x = new MealLockers();
        x.set(0, 48);
        x.locker(4, 1);
        x.locker(4, 1);
        x.meal(0, 50, 0);
        x.meal(0, 50, 0);
        x.person(0);
        x.person(0);
        DUE.is("7 first code", x.reserve(1, 1), 1044);
        x.pass(4);
        DUE.is("7 same code", x.reserve(0, 0), 1044);
        DUE.is("7 the lowest number", x.fetch(0, 1044, 0), 0);
        DUE.is("7 its person", x.mealOf(0, 5), 0);
        DUE.is("7 then the other", x.fetch(0, 1044, 1), 1);
        DUE.is("7 then none", x.fetch(0, 1044, 0), -2);
    }

    private static void lapsing() {
        MealLockers x = new MealLockers();
        x.locker(4, 1);
        x.meal(0, 90, 0);
        x.person(0);
        x.person(0);
        x.pass(1);
        x.reserve(0, 0);
        x.pass(3);
        DUE.is("lapse: not yet", x.mealOf(0, 0), 1);
        x.pass(1);
        DUE.is("lapse: after 4 hours", x.mealOf(0, 0), 0);
        DUE.is("lapse: no code", x.mealOf(0, 4), -4);
        DUE.is("lapse: no person", x.mealOf(0, 5), -4);
        DUE.is("lapse: person has none", x.personOf(0, 3), -4);
        DUE.is("lapse: strike", x.personOf(0, 1), 1);
        DUE.is("lapse: lapsed", x.personOf(0, 5), 1);
        DUE.is("lapse: not barred", x.personOf(0, 2), 0);
        DUE.is("lapse: the code is void", x.fetch(0, 1011, 0), -2);
        DUE.is("lapse: somebody else", x.reserve(1, 0), 1062);
        x.set(0, 48);
        x.pass(10);
        DUE.is("lapse: by the setting then", x.mealOf(0, 0), 1);
        x.set(0, 2);
        DUE.is("lapse: not by set", x.mealOf(0, 0), 1);
        x.pass(1);
        DUE.is("lapse: at least", x.mealOf(0, 0), 0);
        DUE.is("lapse: strike", x.personOf(1, 1), 1);
    }

    private static void barring() {
        MealLockers x = new MealLockers();
        x.set(0, 1);
        x.set(2, 5);
        x.locker(4, 1);
        x.meal(0, 90, 0);
        x.person(0);
        for (int i = 1; i <= 2; i++) {
            x.reserve(0, 0);
            x.pass(1);
            DUE.is("bar: strikes", x.personOf(0, 1), i);
            DUE.is("bar: not barred", x.personOf(0, 2), 0);
        }
        x.reserve(0, 0);
        x.pass(1);
        DUE.is("bar: no strikes any more", x.personOf(0, 1), 0);
        DUE.is("bar: lapsed", x.personOf(0, 5), 3);
        DUE.is("bar: hours", x.personOf(0, 2), 5);
        DUE.is("bar: barred", x.reserve(0, 0), -2);
        x.set(2, 99);
        x.pass(4);
        DUE.is("bar: hours", x.personOf(0, 2), 1);
        DUE.is("bar: still barred", x.reserve(0, 0), -2);
        x.pass(1);
        DUE.is("bar: hours", x.personOf(0, 2), 0);
        DUE.is("bar: not from this hour on", x.reserve(0, 0), 1088);
        x.set(1, 1);
        x.pass(1);
        DUE.is("bar: at the first strike", x.personOf(0, 2), 99);

        MealLockers y = new MealLockers();
        y.set(0, 1);
        y.locker(4, 1);
        y.meal(0, 90, 0);
        y.person(0);
        y.reserve(0, 0);
        y.pass(1);
        y.reserve(0, 0);
        y.pass(1);
        y.set(1, 1);
        DUE.is("bar: not by set", y.personOf(0, 1), 2);
        y.reserve(0, 0);
        y.pass(1);
        DUE.is("bar: or more", y.personOf(0, 2), 24);
        DUE.is("bar: or more", y.personOf(0, 1), 0);
    }

    private static void spoilingIsNoStrike() {
        MealLockers x = new MealLockers();
        x.locker(4, 1);
        x.meal(0, 4, 0);
        x.meal(0, 9, 0);
        x.person(0);
        x.reserve(0, 0);
        DUE.is("spoil: in the hour of lapsing", x.pass(4), 1);
        DUE.is("spoil: stage", x.mealOf(0, 0), 5);
        DUE.is("spoil: in the locker", x.lockerOf(0, 8), 1);
        DUE.is("spoil: no strike", x.personOf(0, 1), 0);
        DUE.is("spoil: not lapsed", x.personOf(0, 5), 0);
        DUE.is("spoil: no reservation", x.personOf(0, 3), -4);
        DUE.is("spoil: no person", x.mealOf(0, 5), -4);
        DUE.is("spoil: no code", x.mealOf(0, 4), -4);
        DUE.is("spoil: reservations", x.count(10), 0);
        DUE.is("spoil: no fetching", x.fetch(0, 1000, 0), -2);
        DUE.is("spoil: can reserve", x.reserve(0, 1), 1081);
    }
}
