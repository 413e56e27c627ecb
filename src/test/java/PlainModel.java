import java.util.ArrayList;
import java.util.List;

/**
 * The document once more, written apart from the class and without its limits on the language:
 * lists of objects, copied whole for every state of the history.
 */
final class PlainModel {
    static final class Locker {
        int cells;
        boolean cold;
        int brought;
        int putIn;
        int fetched;
        int refused;
        int takenOut;
        int spoilt;
    }

    static final class Meal {
        Locker locker;
        Volunteer carrier;
        Person holder;
        Person last;
        String end = "";
        int hours;
        int allergens;
        int code;
        int since;

        boolean here() {
            return end.isEmpty() && carrier == null;
        }
    }

    static final class Person {
        int allergies;
        int strikes;
        int barredUntil;
        int fetched;
        int lapsed;
    }

    static final class Volunteer {
        int room;
        Locker locker;
        int way;
        int walked;
    }

    static final class World {
        final List<Locker> lockers = new ArrayList<>();
        final List<Meal> meals = new ArrayList<>();
        final List<Person> people = new ArrayList<>();
        final List<Volunteer> volunteers = new ArrayList<>();
        final int[] settings = {4, 3, 24, 1};
        int time;

        World copy() {
            World w = new World();
            w.time = time;
            System.arraycopy(settings, 0, w.settings, 0, 4);
            for (Locker l : lockers) {
                Locker c = new Locker();
                c.cells = l.cells;
                c.cold = l.cold;
                c.brought = l.brought;
                c.putIn = l.putIn;
                c.fetched = l.fetched;
                c.refused = l.refused;
                c.takenOut = l.takenOut;
                c.spoilt = l.spoilt;
                w.lockers.add(c);
            }
            for (Person p : people) {
                Person c = new Person();
                c.allergies = p.allergies;
                c.strikes = p.strikes;
                c.barredUntil = p.barredUntil;
                c.fetched = p.fetched;
                c.lapsed = p.lapsed;
                w.people.add(c);
            }
            for (Volunteer v : volunteers) {
                Volunteer c = new Volunteer();
                c.room = v.room;
                c.locker = w.lockers.get(lockers.indexOf(v.locker));
                c.way = v.way;
                c.walked = v.walked;
                w.volunteers.add(c);
            }
            for (Meal m : meals) {
                Meal c = new Meal();
                c.locker = w.lockers.get(lockers.indexOf(m.locker));
                c.carrier = m.carrier == null ? null
                        : w.volunteers.get(volunteers.indexOf(m.carrier));
                c.holder = m.holder == null ? null : w.people.get(people.indexOf(m.holder));
                c.last = m.last == null ? null : w.people.get(people.indexOf(m.last));
                c.end = m.end;
                c.hours = m.hours;
                c.allergens = m.allergens;
                c.code = m.code;
                c.since = m.since;
                w.meals.add(c);
            }
            return w;
        }

        List<Meal> in(Locker l) {
            List<Meal> found = new ArrayList<>(meals);
            found.removeIf(m -> !m.here() || m.locker != l);
            return found;
        }

        List<Meal> with(Volunteer v) {
            List<Meal> found = new ArrayList<>(meals);
            found.removeIf(m -> !m.end.isEmpty() || m.carrier != v);
            return found;
        }

        int set(List<Meal> some) {
            int set = 0;
            for (Meal m : some) {
                set += 1 << meals.indexOf(m);
            }
            return set;
        }

        boolean holds(Person p) {
            return meals.stream().anyMatch(m -> m.holder == p);
        }

        int stow(Volunteer v) {
            int n = 0;
            for (Meal m : with(v)) {
                if (in(v.locker).size() < v.locker.cells) {
                    m.carrier = null;
                    m.locker = v.locker;
                    v.locker.putIn++;
                    n++;
                }
            }
            return n;
        }

        int hour() {
            int spoilt = 0;
            time++;
            for (Meal m : meals) {
                if (m.end.isEmpty()) {
                    m.hours -= m.carrier == null && m.locker.cold ? 1 : 2;
                    if (m.hours <= 0) {
                        if (m.carrier == null) {
                            m.locker.spoilt++;
                        }
                        m.hours = 0;
                        m.end = "spoilt";
                        m.holder = null;
                        m.carrier = null;
                        spoilt++;
                    }
                }
            }
            for (Volunteer v : volunteers) {
                if (v.way > 0) {
                    v.walked++;
                    if (--v.way == 0) {
                        stow(v);
                    }
                }
            }
            for (Meal m : meals) {
                if (m.holder != null && time - m.since >= settings[0]) {
                    Person p = m.holder;
                    m.holder = null;
                    p.lapsed++;
                    if (++p.strikes >= settings[1]) {
                        p.strikes = 0;
                        p.barredUntil = time + settings[2];
                    }
                }
            }
            return spoilt;
        }
    }

    private World now = new World();
    private final ArrayList<World> history = new ArrayList<>();
    private String text = "";

    private static boolean out(int value, int least, int most) {
        return value < least || value > most;
    }

    private static boolean none(List<?> list, int number) {
        return number < 0 || number >= list.size();
    }

    /** One call by its name, as a number from the list in ModelTest. */
    int call(String name, int a, int b, int c) {
        switch (name) {
            case "locker": case "meal": case "person": case "volunteer": case "reserve":
            case "fetch": case "take": case "go": case "put": case "pass": case "set": {
                World before = now.copy();
                int answer = change(now, name, a, b, c);
                if (answer >= 0) {
                    push(before);
                } else {
                    now = before;
                }
                return answer;
            }
            case "play": {
                World before = now.copy();
                int[] found = run(now);
                if (found[1] != 0) {
                    now = before;
                    return -2;
                }
                push(before);
                return found[2];
            }
            case "fault": {
                if (out(a, 0, 1)) {
                    return -1;
                }
                int[] found = run(now.copy());
                return found[1] == 0 ? -4 : found[a];
            }
            case "undo":
                if (history.isEmpty()) {
                    return -2;
                }
                now = history.remove(history.size() - 1);
                return history.size();
            case "type":
                if (out(a, 32, 126)) {
                    return -1;
                }
                if (text.length() >= 60) {
                    return -3;
                }
                text += (char) a;
                return text.length();
            case "clearText": {
                int length = text.length();
                text = "";
                return length;
            }
            default:
                return look(name, a, b);
        }
    }

    private void push(World before) {
        history.add(before);
        if (history.size() > 4) {
            history.remove(0);
        }
    }

    private int[] run(World w) {
        int at = 0;
        int commands = 0;
        while (at < text.length()) {
            int end = text.indexOf(';', at);
            String one = end < 0 ? "" : text.substring(at, end);
            int answer;
            if (one.matches("[rfntg][0-9]{1,4},[0-9]{1,4}")) {
                String[] parts = one.substring(1).split(",");
                int first = Integer.parseInt(parts[0]);
                int second = Integer.parseInt(parts[1]);
                switch (one.charAt(0)) {
                    case 'r': answer = change(w, "reserve", first, second, 0); break;
                    case 'f': answer = change(w, "fetch", first, second, 0); break;
                    case 'n': answer = change(w, "fetch", first, second, 1); break;
                    case 't': answer = change(w, "take", first, second, 0); break;
                    default: answer = change(w, "go", first, second, 0); break;
                }
            } else if (one.matches("[ph][0-9]{1,4}")) {
                int only = Integer.parseInt(one.substring(1));
                answer = change(w, one.charAt(0) == 'p' ? "put" : "pass", only, 0, 0);
            } else {
                return new int[] {at, 1, commands};
            }
            if (answer < 0) {
                return new int[] {at, answer == -1 ? 2 : 3, commands};
            }
            commands++;
            at = end + 1;
        }
        return new int[] {-1, 0, commands};
    }

    private static int change(World w, String name, int a, int b, int c) {
        switch (name) {
            case "locker": {
                if (out(a, 1, 8) || out(b, 0, 1)) return -1;
                if (w.lockers.size() == 5) return -3;
                Locker l = new Locker();
                l.cells = a;
                l.cold = b == 1;
                w.lockers.add(l);
                return w.lockers.size() - 1;
            }
            case "meal": {
                if (none(w.lockers, a) || out(b, 1, 99) || out(c, 0, 31)) return -1;
                Locker l = w.lockers.get(a);
                if (w.in(l).size() == l.cells) return -2;
                if (w.meals.size() == 24) return -3;
                Meal m = new Meal();
                m.locker = l;
                m.hours = b;
                m.allergens = c;
                l.brought++;
                w.meals.add(m);
                return w.meals.size() - 1;
            }
            case "person": {
                if (out(a, 0, 31)) return -1;
                if (w.people.size() == 8) return -3;
                Person p = new Person();
                p.allergies = a;
                w.people.add(p);
                return w.people.size() - 1;
            }
            case "volunteer": {
                if (none(w.lockers, a) || out(b, 1, 4)) return -1;
                if (w.volunteers.size() == 3) return -3;
                Volunteer v = new Volunteer();
                v.locker = w.lockers.get(a);
                v.room = b;
                w.volunteers.add(v);
                return w.volunteers.size() - 1;
            }
            case "reserve": {
                if (none(w.people, a) || none(w.meals, b)) return -1;
                Person p = w.people.get(a);
                Meal m = w.meals.get(b);
                if (!m.here() || m.holder != null || w.time < p.barredUntil || w.holds(p)
                        || (m.allergens & p.allergies) != 0) return -2;
                m.holder = p;
                m.since = w.time;
                m.code = 1000 + (37 * b + 11 * w.time + 7 * a) % 9000;
                return m.code;
            }
            case "fetch": {
                if (none(w.lockers, a) || out(b, 1000, 9999) || out(c, 0, 1)) return -1;
                for (Meal m : w.in(w.lockers.get(a))) {
                    if (m.holder != null && m.code == b) {
                        m.last = m.holder;
                        m.holder = null;
                        m.end = c == 0 ? "fetched" : "refused";
                        if (c == 0) {
                            m.locker.fetched++;
                            m.last.fetched++;
                        } else {
                            m.locker.refused++;
                        }
                        return w.meals.indexOf(m);
                    }
                }
                return -2;
            }
            case "take": {
                if (none(w.volunteers, a) || none(w.meals, b)) return -1;
                Volunteer v = w.volunteers.get(a);
                Meal m = w.meals.get(b);
                if (v.way > 0 || w.with(v).size() == v.room || !w.in(v.locker).contains(m)
                        || m.holder != null) return -2;
                m.carrier = v;
                v.locker.takenOut++;
                return w.with(v).size();
            }
            case "go": {
                if (none(w.volunteers, a) || none(w.lockers, b)) return -1;
                Volunteer v = w.volunteers.get(a);
                if (v.way > 0 || v.locker == w.lockers.get(b)) return -2;
                v.way = Math.abs(w.lockers.indexOf(v.locker) - b) * w.settings[3];
                v.locker = w.lockers.get(b);
                return w.time + v.way;
            }
            case "put": {
                if (none(w.volunteers, a)) return -1;
                Volunteer v = w.volunteers.get(a);
                if (v.way > 0) return -2;
                int n = w.stow(v);
                return n == 0 ? -2 : n;
            }
            case "pass": {
                if (out(a, 1, 99)) return -1;
                if (w.time + a > 5000) return -3;
                int n = 0;
                for (int i = 0; i < a; i++) {
                    n += w.hour();
                }
                return n;
            }
            default: {
                int[] most = {48, 9, 99, 9};
                if (out(a, 0, 3) || out(b, 1, most[a])) return -1;
                int was = w.settings[a];
                w.settings[a] = b;
                return was;
            }
        }
    }

    private int look(String name, int a, int b) {
        switch (name) {
            case "mealOf":
                return none(now.meals, a) || out(b, 0, 6) ? -1 : mealOf(now.meals.get(a), b);
            case "lockerOf": {
                if (none(now.lockers, a) || out(b, 0, 8)) return -1;
                Locker l = now.lockers.get(a);
                return new int[] {l.cells, l.cold ? 1 : 0, now.set(now.in(l)), l.brought, l.putIn,
                    l.fetched, l.refused, l.takenOut, l.spoilt}[b];
            }
            case "personOf": {
                if (none(now.people, a) || out(b, 0, 5)) return -1;
                Person p = now.people.get(a);
                int meal = -4;
                for (Meal m : now.meals) {
                    if (m.holder == p) meal = now.meals.indexOf(m);
                }
                int barred = p.barredUntil > now.time ? p.barredUntil - now.time : 0;
                return new int[] {p.allergies, p.strikes, barred, meal, p.fetched, p.lapsed}[b];
            }
            case "volunteerOf": {
                if (none(now.volunteers, a) || out(b, 0, 4)) return -1;
                Volunteer v = now.volunteers.get(a);
                return new int[] {v.room, now.lockers.indexOf(v.locker), now.set(now.with(v)),
                    v.way, v.walked}[b];
            }
            case "count":
                return count(a);
            case "advice":
                return advice(a);
            case "wouldSpoil":
                return wouldSpoil(a);
            case "move":
                return move(a);
            default: {
                int gone = count(7) + count(8) + count(9);
                return gone == 0 ? -4 : Float.floatToIntBits((float) count(7) / (float) gone);
            }
        }
    }

    private int mealOf(Meal m, int what) {
        switch (what) {
            case 0:
                if (m.end.equals("fetched")) return 3;
                if (m.end.equals("refused")) return 4;
                if (m.end.equals("spoilt")) return 5;
                return m.carrier != null ? 2 : m.holder != null ? 1 : 0;
            case 1: return now.lockers.indexOf(m.locker);
            case 2: return m.hours;
            case 3: return m.allergens;
            case 4: return m.holder == null ? -4 : m.code;
            case 5:
                if (m.holder != null) return now.people.indexOf(m.holder);
                return m.last != null ? now.people.indexOf(m.last) : -4;
            default: return m.carrier == null ? -4 : now.volunteers.indexOf(m.carrier);
        }
    }

    private int count(int what) {
        int here = 0;
        int carried = 0;
        int held = 0;
        int[] ends = new int[3];
        for (Meal m : now.meals) {
            here += m.here() ? 1 : 0;
            carried += m.carrier != null ? 1 : 0;
            held += m.holder != null ? 1 : 0;
            ends[0] += m.end.equals("fetched") ? 1 : 0;
            ends[1] += m.end.equals("refused") ? 1 : 0;
            ends[2] += m.end.equals("spoilt") ? 1 : 0;
        }
        int[] all = {now.lockers.size(), now.meals.size(), now.people.size(),
            now.volunteers.size(), now.time, here, carried, ends[0], ends[1], ends[2], held,
            history.size(), text.length(), now.settings[0], now.settings[1], now.settings[2],
            now.settings[3]};
        return out(what, 0, 16) ? -1 : all[what];
    }

    private int advice(int person) {
        if (none(now.people, person)) return -1;
        int best = -4;
        int fewest = Integer.MAX_VALUE;
        for (Meal m : now.meals) {
            if (m.here() && m.holder == null
                    && (m.allergens & now.people.get(person).allergies) == 0) {
                int hours = 0;
                for (int left = m.hours; left > 0; left -= m.locker.cold ? 1 : 2) {
                    hours++;
                }
                if (hours < fewest) {
                    fewest = hours;
                    best = now.meals.indexOf(m);
                }
            }
        }
        return best;
    }

    private int wouldSpoil(int hours) {
        if (out(hours, 1, 99)) return -1;
        World then = now.copy();
        for (int i = 0; i < hours; i++) {
            then.hour();
        }
        int set = 0;
        for (int m = 0; m < now.meals.size(); m++) {
            if (now.meals.get(m).end.isEmpty() && !then.meals.get(m).end.isEmpty()) {
                set |= 1 << m;
            }
        }
        return set;
    }

    private int move(int what) {
        if (out(what, 0, 2)) return -1;
        int[] best = {-4, -4, 0};
        for (int m = 0; m < now.meals.size(); m++) {
            Meal meal = now.meals.get(m);
            if (!meal.here() || meal.holder != null || meal.locker.cold) continue;
            for (int l = 0; l < now.lockers.size(); l++) {
                Locker to = now.lockers.get(l);
                if (!to.cold || now.in(to).size() == to.cells) continue;
                int way = Math.abs(now.lockers.indexOf(meal.locker) - l) * now.settings[3];
                int left = meal.hours;
                for (int i = 0; i < way; i++) {
                    left -= 2;
                }
                if (left > best[2]) {
                    best = new int[] {m, l, left};
                }
            }
        }
        return best[0] < 0 ? -4 : best[what];
    }
}
