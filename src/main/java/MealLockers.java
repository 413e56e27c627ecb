/**
 * Surplus meals in lockers. The document ../shared/DOC.md says what every public call answers.
 *
 * <p>Every change is first tried on a second state, since a text may turn out to be at fault when
 * half of its commands are done. All rows are made in constructors and used again, since all calls
 * of a run live in one room.
 */
public final class MealLockers {
    public static final int INVALID_ARGUMENT = -1;
    public static final int NOT_POSSIBLE = -2;
    public static final int LIMIT_REACHED = -3;
    public static final int NOT_FOUND = -4;

    private static final int LOCKER_LIMIT = 5;
    private static final int MEAL_LIMIT = 24;
    private static final int PERSON_LIMIT = 8;
    private static final int VOLUNTEER_LIMIT = 3;
    private static final int HISTORY_LIMIT = 4;
    private static final int TEXT_LIMIT = 60;
    private static final int MOST_CELLS = 8;
    private static final int MOST_ROOM = 4;
    private static final int MOST_COLD_HOURS = 99;
    private static final int MOST_PASSED_HOURS = 99;
    private static final int ALL_ALLERGENS = 31;
    private static final int FIRST_CODE = 1000;
    private static final int LAST_CODE = 9999;
    private static final int LAST_HOUR = 5000;
    private static final int NO_LAST_HOUR = 1000000;

    private static final int LOSS_IN_COLD = 1;
    private static final int LOSS_ELSEWHERE = 2;

    // Columns have the numbers by which the document asks, so that most answers are just read.
    private static final int LOCKER_CELLS = 0;
    private static final int LOCKER_COLD = 1;
    private static final int LOCKER_MEALS = 2;
    private static final int LOCKER_BROUGHT = 3;
    private static final int LOCKER_PUT_IN = 4;
    private static final int LOCKER_FETCHED = 5;
    private static final int LOCKER_REFUSED = 6;
    private static final int LOCKER_TAKEN_OUT = 7;
    private static final int LOCKER_SPOILT = 8;
    private static final int LOCKER_COLUMNS = 9;

    private static final int MEAL_STAGE = 0;
    private static final int MEAL_LOCKER = 1;
    private static final int MEAL_COLD_HOURS = 2;
    private static final int MEAL_ALLERGENS = 3;
    private static final int MEAL_CODE = 4;
    private static final int MEAL_PERSON = 5;
    private static final int MEAL_VOLUNTEER = 6;
    private static final int MEAL_RESERVED_AT = 7;
    private static final int MEAL_COLUMNS = 8;

    private static final int PERSON_ALLERGIES = 0;
    private static final int PERSON_STRIKES = 1;
    private static final int PERSON_BARRED_UNTIL = 2;
    private static final int PERSON_MEAL = 3;
    private static final int PERSON_FETCHED = 4;
    private static final int PERSON_LAPSED = 5;
    private static final int PERSON_COLUMNS = 6;

    private static final int VOLUNTEER_ROOM = 0;
    private static final int VOLUNTEER_LOCKER = 1;
    private static final int VOLUNTEER_MEALS = 2;
    private static final int VOLUNTEER_ARRIVAL = 3;
    private static final int VOLUNTEER_WALKED = 4;
    private static final int VOLUNTEER_COLUMNS = 5;

    // In this order a range of stages tells whether a meal is in a locker (up to RESERVED) or gone
    // (from FETCHED on).
    private static final int IN_LOCKER = 0;
    private static final int RESERVED = 1;
    private static final int CARRIED = 2;
    private static final int FETCHED = 3;
    private static final int REFUSED = 4;
    private static final int SPOILT = 5;

    private static final int CODE_HOURS = 0;
    private static final int STRIKES_TO_BAR = 1;
    private static final int BAR_HOURS = 2;
    private static final int WAY_HOURS = 3;
    private static final int SETTINGS = 4;
    private static final int LEAST_SETTING = 1;
    private static final int[] MOST_OF_SETTING = {48, 9, 99, 9};
    private static final int[] FIRST_OF_SETTING = {4, 3, 24, 1};

    private static final int COUNT_LOCKERS = 0;
    private static final int COUNT_MEALS = 1;
    private static final int COUNT_PEOPLE = 2;
    private static final int COUNT_VOLUNTEERS = 3;
    private static final int COUNT_TIME = 4;
    private static final int COUNT_IN_LOCKERS = 5;
    private static final int COUNT_CARRIED = 6;
    private static final int COUNT_FETCHED = 7;
    private static final int COUNT_REFUSED = 8;
    private static final int COUNT_SPOILT = 9;
    private static final int COUNT_RESERVED = 10;
    private static final int COUNT_HISTORY = 11;
    private static final int COUNT_TEXT = 12;
    private static final int COUNT_SETTINGS = 13;

    private static final int MOVE_MEAL = 0;
    private static final int MOVE_LOCKER = 1;
    private static final int MOVE_COLD_HOURS = 2;

    private static final int FIRST_CHARACTER = 32;
    private static final int LAST_CHARACTER = 126;
    private static final int MOST_DIGITS = 4;

    private static final int FAULT_POSITION = 0;
    private static final int FAULT_REASON = 1;
    private static final int NO_FAULT = 0;
    private static final int FAULT_OF_FORM = 1;
    private static final int FAULT_OF_ARGUMENT = 2;
    private static final int FAULT_OF_STATE = 3;

    // How a float is made up of bits: LANGUAGE.md has no Float that would tell them.
    private static final int FLOAT_EXPONENT_OF_ONE = 127;
    private static final int FLOAT_FRACTION_BITS = 23;
    private static final int DOUBLINGS_OF_LEAST_SHARE = 5;

    private final State current;
    private final State trial;
    private final Changes changes;
    private final Questions questions;
    private final History history;
    private final Text text;
    private final Player player;

    public MealLockers() {
        current = new State();
        trial = new State();
        changes = new Changes(trial);
        questions = new Questions(current);
        history = new History();
        text = new Text();
        player = new Player(text);
    }

    // ---- what there is to begin with

    public int locker(int cells, int cold) {
        return settle(onTrial().addLocker(cells, cold));
    }

    public int meal(int locker, int hours, int allergens) {
        return settle(onTrial().addMeal(locker, hours, allergens));
    }

    public int person(int allergies) {
        return settle(onTrial().addPerson(allergies));
    }

    public int volunteer(int locker, int room) {
        return settle(onTrial().addVolunteer(locker, room));
    }

    // ---- codes

    public int reserve(int person, int meal) {
        return settle(onTrial().reserveMeal(person, meal));
    }

    public int fetch(int locker, int code, int refused) {
        return settle(onTrial().endReservation(locker, code, refused));
    }

    // ---- volunteers

    public int take(int volunteer, int meal) {
        return settle(onTrial().takeMeal(volunteer, meal));
    }

    public int go(int volunteer, int locker) {
        return settle(onTrial().sendVolunteer(volunteer, locker));
    }

    public int put(int volunteer) {
        return settle(onTrial().putMealsIn(volunteer));
    }

    public int pass(int hours) {
        return settle(onTrial().passHours(hours, LAST_HOUR));
    }

    public int set(int what, int value) {
        return settle(onTrial().changeSetting(what, value));
    }

    // ---- what there is

    public int mealOf(int meal, int what) {
        return questions.ofMeal(meal, what);
    }

    public int lockerOf(int locker, int what) {
        return questions.ofLocker(locker, what);
    }

    public int personOf(int person, int what) {
        return questions.ofPerson(person, what);
    }

    public int volunteerOf(int volunteer, int what) {
        return questions.ofVolunteer(volunteer, what);
    }

    public int count(int what) {
        switch (what) {
            case COUNT_HISTORY:
                return history.size();
            case COUNT_TEXT:
                return text.length();
            default:
                return questions.total(what);
        }
    }

    // ---- what should be done

    public int advice(int person) {
        return questions.mealToTake(person);
    }

    public int wouldSpoil(int hours) {
        int answer = onTrial().passHours(hours, NO_LAST_HOUR);
        return answer < 0 ? answer : trial.mealsSpoilt() & ~current.mealsSpoilt();
    }

    public int move(int what) {
        return questions.ofBestMove(what);
    }

    public int shareBits() {
        return questions.bitsOfFetchedShare();
    }

    public int undo() {
        return history.restoreLatest(current);
    }

    // ---- texts

    public int type(int character) {
        return text.append(character);
    }

    public int clearText() {
        return text.empty();
    }

    public int fault(int what) {
        player.playText(onTrial());
        return player.ofFault(what);
    }

    public int play() {
        return settle(player.playText(onTrial()));
    }

    /** What is tried must begin at the current state, whatever was left of the trial before. */
    private Changes onTrial() {
        trial.copyFrom(current);
        return changes;
    }

    /** A change that answered an error is forgotten with its trial state: it changes nothing. */
    private int settle(int answer) {
        if (answer >= 0) {
            history.keep(current);
            current.copyFrom(trial);
        }
        return answer;
    }

    private static boolean isWithin(int value, int least, int most) {
        return value >= least && value <= most;
    }

    /**
     * Rows of numbers. Cells outside it read as 0 and are not written, so that no row or column
     * can make the machine throw.
     */
    private static final class Table {
        private final int limit;
        private final int columns;
        private final int[] cells;
        private int rows;

        Table(int limit, int columns) {
            this.limit = limit;
            this.columns = columns;
            this.cells = new int[Math.max(0, limit * columns)];
        }

        int size() {
            return rows;
        }

        boolean has(int row) {
            return row >= 0 && row < rows;
        }

        boolean isFull() {
            return rows >= limit;
        }

        /** Who calls it has looked at isFull, since that has its place in the order of errors. */
        int addRow() {
            rows++;
            return rows - 1;
        }

        int at(int row, int column) {
            int index = row * columns + column;
            return index >= 0 && index < cells.length ? cells[index] : 0;
        }

        void store(int row, int column, int value) {
            int index = row * columns + column;
            if (index >= 0 && index < cells.length) {
                cells[index] = value;
            }
        }

        void raise(int row, int column) {
            store(row, column, at(row, column) + 1);
        }

        void copyFrom(Table other) {
            rows = other.rows;
            // The rows that are not in use are copied, too: a new row has to begin with zeros.
            for (int i = 0; i < cells.length && i < other.cells.length; i++) {
                cells[i] = other.cells[i];
            }
        }
    }

    /** What the history records: everything but the text. */
    private static final class State {
        private final Table lockers;
        private final Table meals;
        private final Table people;
        private final Table volunteers;
        private final Table settings;
        private int time;

        State() {
            lockers = new Table(LOCKER_LIMIT, LOCKER_COLUMNS);
            meals = new Table(MEAL_LIMIT, MEAL_COLUMNS);
            people = new Table(PERSON_LIMIT, PERSON_COLUMNS);
            volunteers = new Table(VOLUNTEER_LIMIT, VOLUNTEER_COLUMNS);
            settings = new Table(SETTINGS, 1);
            for (int i = 0; i < FIRST_OF_SETTING.length; i++) {
                settings.store(settings.addRow(), 0, FIRST_OF_SETTING[i]);
            }
        }

        void copyFrom(State other) {
            lockers.copyFrom(other.lockers);
            meals.copyFrom(other.meals);
            people.copyFrom(other.people);
            volunteers.copyFrom(other.volunteers);
            settings.copyFrom(other.settings);
            time = other.time;
        }

        int setting(int what) {
            return settings.at(what, 0);
        }

        int mealsIn(int locker) {
            int set = 0;
            for (int m = 0; m < meals.size(); m++) {
                if (meals.at(m, MEAL_STAGE) <= RESERVED && meals.at(m, MEAL_LOCKER) == locker) {
                    set |= 1 << m;
                }
            }
            return set;
        }

        int mealsWith(int volunteer) {
            int set = 0;
            for (int m = 0; m < meals.size(); m++) {
                if (meals.at(m, MEAL_STAGE) == CARRIED
                        && meals.at(m, MEAL_VOLUNTEER) == volunteer) {
                    set |= 1 << m;
                }
            }
            return set;
        }

        int mealsSpoilt() {
            int set = 0;
            for (int m = 0; m < meals.size(); m++) {
                if (meals.at(m, MEAL_STAGE) == SPOILT) {
                    set |= 1 << m;
                }
            }
            return set;
        }

        int freeCells(int locker) {
            return lockers.at(locker, LOCKER_CELLS) - Integer.bitCount(mealsIn(locker));
        }

        int mealReservedBy(int person) {
            for (int m = 0; m < meals.size(); m++) {
                if (meals.at(m, MEAL_STAGE) == RESERVED && meals.at(m, MEAL_PERSON) == person) {
                    return m;
                }
            }
            return NOT_FOUND;
        }

        /** Does not look at what else hinders the person, since advice() must not. */
        boolean isFitFor(int person, int meal) {
            int shared = meals.at(meal, MEAL_ALLERGENS) & people.at(person, PERSON_ALLERGIES);
            return meals.at(meal, MEAL_STAGE) == IN_LOCKER && shared == 0;
        }

        int barredHours(int person) {
            return Math.max(0, people.at(person, PERSON_BARRED_UNTIL) - time);
        }

        int wayHoursLeft(int volunteer) {
            return Math.max(0, volunteers.at(volunteer, VOLUNTEER_ARRIVAL) - time);
        }

        int wayHours(int from, int to) {
            return Math.abs(from - to) * setting(WAY_HOURS);
        }

        boolean isCold(int locker) {
            return lockers.at(locker, LOCKER_COLD) == 1;
        }
    }

    /** What changes a state. The errors are looked for ahead of the first cell that is written. */
    private static final class Changes {
        private final State state;
        private final Table lockers;
        private final Table meals;
        private final Table people;
        private final Table volunteers;

        Changes(State state) {
            this.state = state;
            lockers = state.lockers;
            meals = state.meals;
            people = state.people;
            volunteers = state.volunteers;
        }

        int addLocker(int cells, int cold) {
            if (!isWithin(cells, 1, MOST_CELLS) || !isWithin(cold, 0, 1)) {
                return INVALID_ARGUMENT;
            }
            if (lockers.isFull()) {
                return LIMIT_REACHED;
            }
            int locker = lockers.addRow();
            lockers.store(locker, LOCKER_CELLS, cells);
            lockers.store(locker, LOCKER_COLD, cold);
            return locker;
        }

        int addMeal(int locker, int hours, int allergens) {
            if (!lockers.has(locker) || !isWithin(hours, 1, MOST_COLD_HOURS)
                    || !isWithin(allergens, 0, ALL_ALLERGENS)) {
                return INVALID_ARGUMENT;
            }
            if (state.freeCells(locker) <= 0) {
                return NOT_POSSIBLE;
            }
            if (meals.isFull()) {
                return LIMIT_REACHED;
            }
            int meal = meals.addRow();
            meals.store(meal, MEAL_STAGE, IN_LOCKER);
            meals.store(meal, MEAL_LOCKER, locker);
            meals.store(meal, MEAL_COLD_HOURS, hours);
            meals.store(meal, MEAL_ALLERGENS, allergens);
            lockers.raise(locker, LOCKER_BROUGHT);
            return meal;
        }

        int addPerson(int allergies) {
            if (!isWithin(allergies, 0, ALL_ALLERGENS)) {
                return INVALID_ARGUMENT;
            }
            if (people.isFull()) {
                return LIMIT_REACHED;
            }
            int person = people.addRow();
            people.store(person, PERSON_ALLERGIES, allergies);
            return person;
        }

        int addVolunteer(int locker, int room) {
            if (!lockers.has(locker) || !isWithin(room, 1, MOST_ROOM)) {
                return INVALID_ARGUMENT;
            }
            if (volunteers.isFull()) {
                return LIMIT_REACHED;
            }
            int volunteer = volunteers.addRow();
            volunteers.store(volunteer, VOLUNTEER_ROOM, room);
            volunteers.store(volunteer, VOLUNTEER_LOCKER, locker);
            return volunteer;
        }

        int reserveMeal(int person, int meal) {
            if (!people.has(person) || !meals.has(meal)) {
                return INVALID_ARGUMENT;
            }
            if (!state.isFitFor(person, meal) || state.barredHours(person) > 0
                    || state.mealReservedBy(person) >= 0) {
                return NOT_POSSIBLE;
            }
            int code = FIRST_CODE
                    + (37 * meal + 11 * state.time + 7 * person) % (LAST_CODE - FIRST_CODE + 1);
            meals.store(meal, MEAL_STAGE, RESERVED);
            meals.store(meal, MEAL_CODE, code);
            meals.store(meal, MEAL_PERSON, person);
            meals.store(meal, MEAL_RESERVED_AT, state.time);
            return code;
        }

        int endReservation(int locker, int code, int refused) {
            if (!lockers.has(locker) || !isWithin(code, FIRST_CODE, LAST_CODE)
                    || !isWithin(refused, 0, 1)) {
                return INVALID_ARGUMENT;
            }
            int meal = mealWithCode(locker, code);
            if (meal < 0) {
                return NOT_POSSIBLE;
            }
            if (refused == 1) {
                meals.store(meal, MEAL_STAGE, REFUSED);
                lockers.raise(locker, LOCKER_REFUSED);
            } else {
                meals.store(meal, MEAL_STAGE, FETCHED);
                lockers.raise(locker, LOCKER_FETCHED);
                people.raise(meals.at(meal, MEAL_PERSON), PERSON_FETCHED);
            }
            return meal;
        }

        private int mealWithCode(int locker, int code) {
            for (int m = 0; m < meals.size(); m++) {
                if (meals.at(m, MEAL_STAGE) == RESERVED && meals.at(m, MEAL_LOCKER) == locker
                        && meals.at(m, MEAL_CODE) == code) {
                    return m;
                }
            }
            return NOT_FOUND;
        }

        int takeMeal(int volunteer, int meal) {
            if (!volunteers.has(volunteer) || !meals.has(meal)) {
                return INVALID_ARGUMENT;
            }
            int locker = volunteers.at(volunteer, VOLUNTEER_LOCKER);
            int carried = Integer.bitCount(state.mealsWith(volunteer));
            if (state.wayHoursLeft(volunteer) > 0
                    || carried >= volunteers.at(volunteer, VOLUNTEER_ROOM)
                    || meals.at(meal, MEAL_STAGE) != IN_LOCKER
                    || meals.at(meal, MEAL_LOCKER) != locker) {
                return NOT_POSSIBLE;
            }
            meals.store(meal, MEAL_STAGE, CARRIED);
            meals.store(meal, MEAL_VOLUNTEER, volunteer);
            lockers.raise(locker, LOCKER_TAKEN_OUT);
            return carried + 1;
        }

        int sendVolunteer(int volunteer, int locker) {
            if (!volunteers.has(volunteer) || !lockers.has(locker)) {
                return INVALID_ARGUMENT;
            }
            int from = volunteers.at(volunteer, VOLUNTEER_LOCKER);
            if (state.wayHoursLeft(volunteer) > 0 || from == locker) {
                return NOT_POSSIBLE;
            }
            int arrival = state.time + state.wayHours(from, locker);
            volunteers.store(volunteer, VOLUNTEER_LOCKER, locker);
            volunteers.store(volunteer, VOLUNTEER_ARRIVAL, arrival);
            return arrival;
        }

        int putMealsIn(int volunteer) {
            if (!volunteers.has(volunteer)) {
                return INVALID_ARGUMENT;
            }
            if (state.wayHoursLeft(volunteer) > 0) {
                return NOT_POSSIBLE;
            }
            int stowed = stowMeals(volunteer);
            return stowed > 0 ? stowed : NOT_POSSIBLE;
        }

        private int stowMeals(int volunteer) {
            int locker = volunteers.at(volunteer, VOLUNTEER_LOCKER);
            int free = state.freeCells(locker);
            int stowed = 0;
            for (int m = 0; m < meals.size() && stowed < free; m++) {
                if (meals.at(m, MEAL_STAGE) == CARRIED
                        && meals.at(m, MEAL_VOLUNTEER) == volunteer) {
                    meals.store(m, MEAL_STAGE, IN_LOCKER);
                    meals.store(m, MEAL_LOCKER, locker);
                    lockers.raise(locker, LOCKER_PUT_IN);
                    stowed++;
                }
            }
            return stowed;
        }

        int passHours(int hours, int lastHour) {
            if (!isWithin(hours, 1, MOST_PASSED_HOURS)) {
                return INVALID_ARGUMENT;
            }
            if (state.time + hours > lastHour) {
                return LIMIT_REACHED;
            }
            int spoilt = 0;
            for (int h = 0; h < hours; h++) {
                state.time++;
                spoilt += spoilMealsOfThisHour();
                for (int v = 0; v < volunteers.size(); v++) {
                    walkAnHour(v);
                    if (volunteers.at(v, VOLUNTEER_ARRIVAL) == state.time) {
                        stowMeals(v);
                    }
                }
                lapseReservations();
            }
            return spoilt;
        }

        private int spoilMealsOfThisHour() {
            int spoilt = 0;
            for (int m = 0; m < meals.size(); m++) {
                int stage = meals.at(m, MEAL_STAGE);
                if (stage > CARRIED) {
                    continue;
                }
                boolean cooled = stage <= RESERVED && state.isCold(meals.at(m, MEAL_LOCKER));
                int left = meals.at(m, MEAL_COLD_HOURS) - (cooled ? LOSS_IN_COLD : LOSS_ELSEWHERE);
                meals.store(m, MEAL_COLD_HOURS, Math.max(0, left));
                if (left <= 0) {
                    spoil(m);
                    spoilt++;
                }
            }
            return spoilt;
        }

        private void spoil(int meal) {
            if (meals.at(meal, MEAL_STAGE) <= RESERVED) {
                lockers.raise(meals.at(meal, MEAL_LOCKER), LOCKER_SPOILT);
            }
            meals.store(meal, MEAL_STAGE, SPOILT);
        }

        private void walkAnHour(int volunteer) {
            // The time was already made greater, so the hour of arriving is still one of the way.
            if (volunteers.at(volunteer, VOLUNTEER_ARRIVAL) >= state.time) {
                volunteers.raise(volunteer, VOLUNTEER_WALKED);
            }
        }

        private void lapseReservations() {
            for (int m = 0; m < meals.size(); m++) {
                int gone = state.time - meals.at(m, MEAL_RESERVED_AT);
                if (meals.at(m, MEAL_STAGE) == RESERVED && gone >= state.setting(CODE_HOURS)) {
                    meals.store(m, MEAL_STAGE, IN_LOCKER);
                    strike(meals.at(m, MEAL_PERSON));
                }
            }
        }

        private void strike(int person) {
            people.raise(person, PERSON_LAPSED);
            people.raise(person, PERSON_STRIKES);
            if (people.at(person, PERSON_STRIKES) >= state.setting(STRIKES_TO_BAR)) {
                people.store(person, PERSON_STRIKES, 0);
                people.store(person, PERSON_BARRED_UNTIL, state.time + state.setting(BAR_HOURS));
            }
        }

        int changeSetting(int what, int value) {
            if (what < 0 || what >= MOST_OF_SETTING.length) {
                return INVALID_ARGUMENT;
            }
            if (!isWithin(value, LEAST_SETTING, MOST_OF_SETTING[what])) {
                return INVALID_ARGUMENT;
            }
            int before = state.setting(what);
            state.settings.store(what, 0, value);
            return before;
        }
    }

    /** What is asked of a state; nothing here writes to it. */
    private static final class Questions {
        private final State state;
        private final Table lockers;
        private final Table meals;
        private final Table people;
        private final Table volunteers;

        Questions(State state) {
            this.state = state;
            lockers = state.lockers;
            meals = state.meals;
            people = state.people;
            volunteers = state.volunteers;
        }

        int ofMeal(int meal, int what) {
            if (!meals.has(meal) || !isWithin(what, MEAL_STAGE, MEAL_VOLUNTEER)) {
                return INVALID_ARGUMENT;
            }
            return tells(meals.at(meal, MEAL_STAGE), what) ? meals.at(meal, what) : NOT_FOUND;
        }

        /** The columns keep what was once in them, so the stage tells what still holds. */
        private static boolean tells(int stage, int what) {
            switch (what) {
                case MEAL_CODE:
                    return stage == RESERVED;
                case MEAL_PERSON:
                    return stage == RESERVED || stage == FETCHED || stage == REFUSED;
                case MEAL_VOLUNTEER:
                    return stage == CARRIED;
                default:
                    return true;
            }
        }

        int ofLocker(int locker, int what) {
            if (!lockers.has(locker) || !isWithin(what, LOCKER_CELLS, LOCKER_SPOILT)) {
                return INVALID_ARGUMENT;
            }
            return what == LOCKER_MEALS ? state.mealsIn(locker) : lockers.at(locker, what);
        }

        int ofPerson(int person, int what) {
            if (!people.has(person) || !isWithin(what, PERSON_ALLERGIES, PERSON_LAPSED)) {
                return INVALID_ARGUMENT;
            }
            switch (what) {
                case PERSON_BARRED_UNTIL:
                    return state.barredHours(person);
                case PERSON_MEAL:
                    return state.mealReservedBy(person);
                default:
                    return people.at(person, what);
            }
        }

        int ofVolunteer(int volunteer, int what) {
            if (!volunteers.has(volunteer)
                    || !isWithin(what, VOLUNTEER_ROOM, VOLUNTEER_WALKED)) {
                return INVALID_ARGUMENT;
            }
            switch (what) {
                case VOLUNTEER_MEALS:
                    return state.mealsWith(volunteer);
                case VOLUNTEER_ARRIVAL:
                    return state.wayHoursLeft(volunteer);
                default:
                    return volunteers.at(volunteer, what);
            }
        }

        int total(int what) {
            switch (what) {
                case COUNT_LOCKERS:
                    return lockers.size();
                case COUNT_MEALS:
                    return meals.size();
                case COUNT_PEOPLE:
                    return people.size();
                case COUNT_VOLUNTEERS:
                    return volunteers.size();
                case COUNT_TIME:
                    return state.time;
                case COUNT_IN_LOCKERS:
                    return mealsAtStages(IN_LOCKER, RESERVED);
                case COUNT_CARRIED:
                    return mealsAtStages(CARRIED, CARRIED);
                case COUNT_FETCHED:
                    return mealsAtStages(FETCHED, FETCHED);
                case COUNT_REFUSED:
                    return mealsAtStages(REFUSED, REFUSED);
                case COUNT_SPOILT:
                    return mealsAtStages(SPOILT, SPOILT);
                case COUNT_RESERVED:
                    return mealsAtStages(RESERVED, RESERVED);
                default:
                    return isWithin(what, COUNT_SETTINGS, COUNT_SETTINGS + SETTINGS - 1)
                            ? state.setting(what - COUNT_SETTINGS) : INVALID_ARGUMENT;
            }
        }

        private int mealsAtStages(int first, int last) {
            int number = 0;
            for (int m = 0; m < meals.size(); m++) {
                if (isWithin(meals.at(m, MEAL_STAGE), first, last)) {
                    number++;
                }
            }
            return number;
        }

        int mealToTake(int person) {
            if (!people.has(person)) {
                return INVALID_ARGUMENT;
            }
            int best = NOT_FOUND;
            for (int m = 0; m < meals.size(); m++) {
                if (state.isFitFor(person, m)
                        && (best < 0 || hoursIfItStays(m) < hoursIfItStays(best))) {
                    best = m;
                }
            }
            return best;
        }

        private int hoursIfItStays(int meal) {
            int left = meals.at(meal, MEAL_COLD_HOURS);
            return state.isCold(meals.at(meal, MEAL_LOCKER))
                    ? left : (left + LOSS_ELSEWHERE - 1) / LOSS_ELSEWHERE;
        }

        int ofBestMove(int what) {
            if (!isWithin(what, MOVE_MEAL, MOVE_COLD_HOURS)) {
                return INVALID_ARGUMENT;
            }
            int bestMeal = NOT_FOUND;
            int bestLocker = NOT_FOUND;
            int most = 0;
            for (int m = 0; m < meals.size(); m++) {
                for (int l = 0; l < lockers.size(); l++) {
                    if (savesByMove(m, l) && hoursOnArriving(m, l) > most) {
                        bestMeal = m;
                        bestLocker = l;
                        most = hoursOnArriving(m, l);
                    }
                }
            }
            if (bestMeal < 0 || what == MOVE_MEAL) {
                return bestMeal;
            }
            return what == MOVE_LOCKER ? bestLocker : most;
        }

        private boolean savesByMove(int meal, int locker) {
            return meals.at(meal, MEAL_STAGE) == IN_LOCKER
                    && !state.isCold(meals.at(meal, MEAL_LOCKER))
                    && state.isCold(locker) && state.freeCells(locker) > 0;
        }

        /** May be below 0: then it would be spoilt before, and this never is the most. */
        private int hoursOnArriving(int meal, int locker) {
            int way = state.wayHours(meals.at(meal, MEAL_LOCKER), locker);
            return meals.at(meal, MEAL_COLD_HOURS) - LOSS_ELSEWHERE * way;
        }

        int bitsOfFetchedShare() {
            int gone = mealsAtStages(FETCHED, SPOILT);
            if (gone <= 0) {
                return NOT_FOUND;
            }
            return floatBits((float) mealsAtStages(FETCHED, FETCHED) / (float) gone);
        }

        private static int floatBits(float share) {
            if (share <= 0f) {
                return 0;
            }
            // No step below rounds. A share of at most 24 meals is 1/24 or more, so that five
            // doublings lead it to 1 or above.
            float fraction = share;
            int exponent = FLOAT_EXPONENT_OF_ONE;
            for (int i = 0; i < DOUBLINGS_OF_LEAST_SHARE && fraction < 1f; i++) {
                fraction = fraction * 2f;
                exponent--;
            }
            int aboveOne = (int) ((fraction - 1f) * (float) (1 << FLOAT_FRACTION_BITS));
            return (exponent << FLOAT_FRACTION_BITS) | aboveOne;
        }
    }

    /** The latest states, in a ring, so that keeping one makes no object. */
    private static final class History {
        private final State[] states;
        private int oldest;
        private int size;

        History() {
            states = new State[HISTORY_LIMIT];
            for (int i = 0; i < states.length; i++) {
                states[i] = new State();
            }
        }

        int size() {
            return size;
        }

        /** Copies, since the state goes on being changed. */
        void keep(State state) {
            if (size >= HISTORY_LIMIT) {
                oldest = (oldest + 1) % HISTORY_LIMIT;
                size--;
            }
            State slot = slotAt(size);
            if (slot != null) {
                slot.copyFrom(state);
                size++;
            }
        }

        int restoreLatest(State into) {
            State latest = size > 0 ? slotAt(size - 1) : null;
            if (latest == null) {
                return NOT_POSSIBLE;
            }
            into.copyFrom(latest);
            size--;
            return size;
        }

        private State slotAt(int stepsFromOldest) {
            int index = (oldest + stepsFromOldest) % HISTORY_LIMIT;
            return index >= 0 && index < states.length ? states[index] : null;
        }
    }

    /** Keeps the parts of the command that was read last, so that reading makes no object. */
    private static final class Text {
        private final char[] signs;
        private int length;
        private int next;
        private int number;
        private char letter;
        private int first;
        private int second;

        Text() {
            signs = new char[TEXT_LIMIT];
        }

        int length() {
            return length;
        }

        int append(int character) {
            if (!isWithin(character, FIRST_CHARACTER, LAST_CHARACTER)) {
                return INVALID_ARGUMENT;
            }
            if (length < 0 || length >= signs.length) {
                return LIMIT_REACHED;
            }
            signs[length] = (char) character;
            length++;
            return length;
        }

        int empty() {
            int before = length;
            length = 0;
            return before;
        }

        /** Returns whether it is of its form; only then its parts may be asked for. */
        boolean readCommand(int position) {
            next = position + 1;
            letter = signAt(position);
            int numbers = numbersOf(letter);
            if (numbers == 0 || !readNumber()) {
                return false;
            }
            first = number;
            if (numbers == 2) {
                if (!readSign(',') || !readNumber()) {
                    return false;
                }
                second = number;
            }
            return readSign(';');
        }

        /** 0 for a letter without a command, since each command has a number. */
        private static int numbersOf(char letter) {
            switch (letter) {
                case 'r':
                case 'f':
                case 'n':
                case 't':
                case 'g':
                    return 2;
                case 'p':
                case 'h':
                    return 1;
                default:
                    return 0;
            }
        }

        private boolean readNumber() {
            int digits = 0;
            number = 0;
            while (digits < MOST_DIGITS && isWithin(signAt(next), '0', '9')) {
                number = 10 * number + (signAt(next) - '0');
                next++;
                digits++;
            }
            return digits > 0;
        }

        private boolean readSign(char sign) {
            if (signAt(next) != sign) {
                return false;
            }
            next++;
            return true;
        }

        /** Behind the end there is the sign 0, which no command has. */
        private char signAt(int position) {
            return position >= 0 && position < length && position < signs.length
                    ? signs[position] : (char) 0;
        }
    }

    /** Keeps where and why it had to stop, since fault() asks for one of both. */
    private static final class Player {
        private final Text text;
        private int faultPosition;
        private int faultReason;

        Player(Text text) {
            this.text = text;
        }

        int playText(Changes changes) {
            int commands = 0;
            faultPosition = 0;
            faultReason = NO_FAULT;
            while (commands < TEXT_LIMIT && faultPosition < text.length()) {
                faultReason = text.readCommand(faultPosition)
                        ? reasonOf(doCommand(changes)) : FAULT_OF_FORM;
                if (faultReason != NO_FAULT) {
                    return NOT_POSSIBLE;
                }
                faultPosition = text.next;
                commands++;
            }
            return commands;
        }

        private int doCommand(Changes changes) {
            switch (text.letter) {
                case 'r':
                    return changes.reserveMeal(text.first, text.second);
                case 'f':
                    return changes.endReservation(text.first, text.second, 0);
                case 'n':
                    return changes.endReservation(text.first, text.second, 1);
                case 't':
                    return changes.takeMeal(text.first, text.second);
                case 'g':
                    return changes.sendVolunteer(text.first, text.second);
                case 'p':
                    return changes.putMealsIn(text.first);
                default:
                    return changes.passHours(text.first, LAST_HOUR);
            }
        }

        private static int reasonOf(int answer) {
            if (answer >= 0) {
                return NO_FAULT;
            }
            return answer == INVALID_ARGUMENT ? FAULT_OF_ARGUMENT : FAULT_OF_STATE;
        }

        int ofFault(int what) {
            if (!isWithin(what, FAULT_POSITION, FAULT_REASON)) {
                return INVALID_ARGUMENT;
            }
            if (faultReason == NO_FAULT) {
                return NOT_FOUND;
            }
            return what == FAULT_POSITION ? faultPosition : faultReason;
        }
    }
}
