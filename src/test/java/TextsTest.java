/** Promises 23 to 26: texts. */
public final class TextsTest {
    private static final Due DUE = new Due("TextsTest");

    public static void main(String[] args) {
        promise23Type();
        promise24ClearText();
        promise25FaultsOfForm();
        promise25FaultsOfArguments();
        promise25FaultsOfState();
        promise25Positions();
        promise25NoFault();
        promise26Play();
        promise26AllCommands();
        promise26FullText();
        promise26OneChange();
        DUE.end();
    }

    private static void promise23Type() {
        MealLockers x = new MealLockers();
        DUE.is("23 character 31", x.type(31), -1);
        DUE.is("23 character 127", x.type(127), -1);
        DUE.is("23 character -1", x.type(-1), -1);
        DUE.is("23 not one of 16 bits", x.type(65536 + 104), -1);
        DUE.is("23 far out", x.type(Integer.MAX_VALUE), -1);
        DUE.is("23 nothing was appended", x.count(12), 0);
        DUE.is("23 character 32", x.type(32), 1);
        DUE.is("23 character 126", x.type(126), 2);
        for (int length = 3; length <= 60; length++) {
            DUE.is("23 length", x.type('h'), length);
        }
        DUE.is("23 full", x.type('h'), -3);
        DUE.is("23 full, out of range", x.type(127), -1);
        DUE.is("23 full", x.count(12), 60);
        DUE.is("23 no change", x.count(11), 0);
    }

    private static void promise24ClearText() {
        MealLockers x = new MealLockers();
        DUE.is("24 empty", x.clearText(), 0);
        Due.write(x, "h1;x");
        DUE.is("24 length", x.clearText(), 4);
        DUE.is("24 empty", x.count(12), 0);
        DUE.is("24 no fault", x.fault(0), -4);
        Due.write(x, "h1;");
        DUE.is("24 nothing old behind it", x.play(), 1);
        DUE.is("24 no change", x.count(11), 1);
    }

    /** A locker with two meals, another one, a person and a volunteer. */
    private static MealLockers ready() {
        MealLockers x = new MealLockers();
        x.locker(2, 1);
        x.locker(2, 0);
        x.meal(0, 60, 0);
        x.meal(0, 60, 1);
        x.person(1);
        x.volunteer(0, 1);
        return x;
    }

    private static void dueFault(String text, int position, int reason) {
        MealLockers x = ready();
        Due.write(x, text);
        DUE.is("25 position of " + text, x.fault(0), position);
        DUE.is("25 reason of " + text, x.fault(1), reason);
        DUE.is("26 play of " + text, x.play(), -2);
        DUE.is("26 a fault is no change: " + text, x.count(4) + x.count(10) + x.count(6), 0);
        DUE.is("26 a fault keeps the text: " + text, x.count(12), text.length());
    }

    private static void promise25FaultsOfForm() {
        String[] texts = {
            "h", "h1", "h;", ";", " h1;", "h 1;", "h1 ;", "H1;", "x1;", "1;", "h00001;", "h1,1;",
            "p;", "p0", "p0,0;", "r0;", "r0,;", "r,0;", "r0,0", "r0,0,0;", "r0 0;", "r00000,0;",
            "r0,00000;", "f0;", "n0;", "t0;", "g0;", "r;", "h-1;", "h+1;", "h1:", "h/;", "h:;",
            "s0,1;", "q0;", "o0;", "u0;", "r0;0;", "h1.0;", "~", "hh1;", "rr0,0;", "r0,,0;",
        };
        for (String text : texts) {
            dueFault(text, 0, 1);
        }
    }

    private static void promise25FaultsOfArguments() {
        String[] texts = {
            "h0;", "h100;", "h9999;", "h0000;", "p1;", "p9999;", "r1,0;", "r0,2;", "r9999,9999;",
            "f0,999;", "f2,1000;", "f0,0;", "n0,999;", "n2,1000;", "t1,0;", "t0,2;", "g1,0;",
            "g0,2;", "n0,0999;",
        };
        for (String text : texts) {
            dueFault(text, 0, 2);
        }
    }

    private static void promise25FaultsOfState() {
        String[] texts = {"p0;", "r0,1;", "f0,1000;", "f1,9999;", "n0,1000;", "g0,0;"};
        for (String text : texts) {
            dueFault(text, 0, 3);
        }
        dueFault("t0,0;t0,1;", 5, 3);
        dueFault("t0,0;t0,0;", 5, 3);
        dueFault("r0,0;t0,0;", 5, 3);
        dueFault("r0,0;n0,1000;f0,1000;", 13, 3);
        dueFault("t0,0;g0,1;p0;", 10, 3);

        MealLockers x = new MealLockers();
        for (int i = 0; i < 50; i++) {
            x.pass(99);
        }
        Due.write(x, "h50;h1;");
        DUE.is("25 the limit of time", x.fault(0), 4);
        DUE.is("25 the limit of time", x.fault(1), 3);
        DUE.is("26 the limit of time", x.play(), -2);
    }

    private static void promise25Positions() {
        dueFault("h1;h1", 3, 1);
        dueFault("h1;;", 3, 1);
        dueFault("h1;h0;", 3, 2);
        dueFault("h01;h001;h0001;h00001;", 15, 1);
        dueFault("h1;h0;x", 3, 2);
        dueFault("r0,0;r0,0;h", 5, 3);
        dueFault("h1;r0,0;f0,1000;", 8, 3);
        dueFault("h1;h1; ", 6, 1);
        // The reservation has lapsed when it would be fetched.
        dueFault("r0,0;h4;f0,1000;", 8, 3);
    }

    private static void promise25NoFault() {
        MealLockers x = ready();
        DUE.is("25 empty", x.fault(0), -4);
        DUE.is("25 empty", x.fault(1), -4);
        DUE.is("25 what -1", x.fault(-1), -1);
        DUE.is("25 what 2", x.fault(2), -1);
        Due.write(x, "h1;r0000,0000;f0,1011;");
        DUE.is("25 none", x.fault(0), -4);
        DUE.is("25 none", x.fault(1), -4);
        DUE.is("25 what 2", x.fault(2), -1);
        Due.write(x, "h0;");
        DUE.is("25 a fault", x.fault(0), 0);
        x.clearText();
        DUE.is("25 none in the empty text", x.fault(0), -4);
        DUE.is("25 none in the empty text", x.fault(1), -4);
        Due.write(x, "h0;");
        DUE.is("25 what 2, with a fault", x.fault(2), -1);
        DUE.is("25 what -1, with a fault", x.fault(-1), -1);
        DUE.is("25 a fault", x.fault(1), 2);
        x.pass(1);
        Due.write(x, "r0,0;");
        DUE.is("25 none", x.fault(1), -4);
        x.reserve(0, 0);
        DUE.is("25 by the state", x.fault(1), 3);
    }

    private static void promise26Play() {
        MealLockers x = ready();
        Due.write(x, "r0,0;h2;f0,1000;");
        DUE.is("26 commands", x.play(), 3);
        DUE.is("26 the text stays", x.count(12), 16);
        DUE.is("26 fetched", x.mealOf(0, 0), 3);
        DUE.is("26 the time", x.count(4), 2);
        DUE.is("26 again", x.play(), -2);
        DUE.is("26 again", x.fault(0), 0);
    }

    private static void promise26AllCommands() {
        MealLockers x = ready();
        Due.write(x, "r0,0;n0,1000;");
        DUE.is("26 n", x.play(), 2);
        DUE.is("26 n: refused", x.mealOf(0, 0), 4);
        Due.write(x, "t0,1;");
        DUE.is("26 t", x.play(), 1);
        DUE.is("26 t: carried", x.mealOf(1, 0), 2);
        Due.write(x, "p0;");
        DUE.is("26 p", x.play(), 1);
        DUE.is("26 p: put in", x.lockerOf(0, 4), 1);
        Due.write(x, "t0,1;g0,1;h99;");
        DUE.is("26 g", x.play(), 3);
        DUE.is("26 g: there", x.volunteerOf(0, 1), 1);
        DUE.is("26 h: the time", x.count(4), 99);
        DUE.is("26 h: spoilt", x.mealOf(1, 0), 5);
        x.meal(1, 9, 0);
        Due.write(x, "r0,2;f1,2163;");
        DUE.is("26 f", x.play(), 2);
        DUE.is("26 f: fetched", x.lockerOf(1, 5), 1);
    }

    private static void promise26FullText() {
        MealLockers x = new MealLockers();
        Due.write(x, "h1;h1;h1;h1;h1;h1;h1;h1;h1;h1;h1;h1;h1;h1;h1;h1;h1;h1;h1;h1;");
        DUE.is("26 60 characters", x.count(12), 60);
        DUE.is("26 no fault", x.fault(0), -4);
        DUE.is("26 20 commands", x.play(), 20);
        DUE.is("26 the time", x.count(4), 20);
        DUE.is("26 one change", x.count(11), 1);
        DUE.is("26 undo", x.undo(), 0);
        DUE.is("26 the time", x.count(4), 0);
        Due.write(x, "h1;h1;h1;h1;h1;h1;h1;h1;h1;h1;h1;h1;h1;h1;h1;h1;h1;h1;h1;h1;h1;");
        DUE.is("26 no more than 60", x.play(), 20);
        Due.write(x, "h1;h1;h1;h1;h1;h1;h1;h1;h1;h1;h1;h1;h1;h1;h1;h1;h1;h1;h1;h01;");
        DUE.is("26 the last one is cut off", x.fault(0), 57);
        DUE.is("26 the last one is cut off", x.fault(1), 1);
    }

    private static void promise26OneChange() {
        MealLockers x = ready();
        DUE.is("26 states", x.count(11), 4);
        x.undo();
        x.undo();
        DUE.is("26 states", x.count(11), 2);
        DUE.is("26 no commands", x.play(), 0);
        DUE.is("26 a change, too", x.count(11), 3);
        DUE.is("26 undo", x.undo(), 2);
        DUE.is("26 nothing else", x.count(1), 2);
        Due.write(x, "h0;");
        DUE.is("26 a fault", x.play(), -2);
        DUE.is("26 is no change", x.count(11), 2);
    }
}
