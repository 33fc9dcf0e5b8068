/** Promises 1 to 4: a new object, write, wipe, fault. */
public final class TextTest {
    private static final Checks CHECKS = new Checks();

    public static void main(String[] args) throws ReflectiveOperationException {
        CHECKS.run(TextTest.class);
        CHECKS.end("TextTest");
    }

    @Says("Promise 1: Nobody.")
    static void newObject() {
        KnowsBetter made = new KnowsBetter();
        for (int what = 0; what <= 6; what++) {
            CHECKS.due("new: about(" + what + ")", made.about(what), 0);
        }
        CHECKS.due("new: person(0, 0)", made.person(0, 0), Checks.UNKNOWN);
        CHECKS.due("new: fault()", made.fault(), 0);
        CHECKS.due("new: undo()", made.undo(), Checks.LATE);
        CHECKS.due("new: again(0)", made.again(0), Checks.LATE);
        CHECKS.due("new: minds(0)", made.minds(0), 64);
        CHECKS.due("new: seed(1)", made.seed(1), 0);
    }

    @Says("Promise 2: A byte (0 .. 255) comes behind THE TEXT: how long it is. BAD; FULL: there are 40.")
    static void write() {
        KnowsBetter made = new KnowsBetter();
        CHECKS.due("write(0)", made.write(0), 1);
        CHECKS.due("write(255)", made.write(255), 2);
        CHECKS.due("write(-1)", made.write(-1), Checks.BAD);
        CHECKS.due("write(256)", made.write(256), Checks.BAD);
        CHECKS.due("about(6)", made.about(6), 2);
        for (int length = 3; length <= 40; length++) {
            CHECKS.due("write(75)", made.write(75), length);
        }
        CHECKS.due("write behind 40", made.write(75), Checks.FULL);
        CHECKS.due("write, bad and full", made.write(256), Checks.BAD);
        CHECKS.due("about(6)", made.about(6), 40);
        CHECKS.due("fault by the first byte", made.fault(), 0);
    }

    @Says("Promise 3: THE TEXT is empty: how long it was.")
    static void wipe() {
        KnowsBetter made = Checks.written("KP0aa");
        CHECKS.due("wipe()", made.wipe(), 5);
        CHECKS.due("wipe()", made.wipe(), 0);
        CHECKS.due("about(6)", made.about(6), 0);
        CHECKS.due("fault() of the empty text", made.fault(), 0);
        CHECKS.due("write(75)", made.write('K'), 1);
        CHECKS.due("fault()", made.fault(), Checks.NONE);
        CHECKS.due("old bytes count no more", made.table(), 0);
    }

    @Says("Terms 1: FAULT: the place (from 0) of the first byte by which THE TEXT can be no TABLE, whatever came "
            + "behind it")
    static void faultByByte() {
        fault("X", 0);
        fault("k", 0);
        fault("PK", 0);
        fault("KK", 1);
        fault("KQ0aa", 1);
        fault("Kp0aa", 1);
        fault("KP/aa", 2);
        fault("KP4aa", 2);
        fault("KP0`a", 3);
        fault("KP0ia", 3);
        fault("KP0Aa", 3);
        fault("KP0a`", 4);
        fault("KP0ai", 4);
        fault("KP0ah", Checks.NONE);
        fault("KP3ha", Checks.NONE);
        fault("KR/00", 2);
        fault("KR600", 2);
        fault("KR060", 3);
        fault("KR0/0", 3);
        fault("KR006", 4);
        fault("KR00/", 4);
        fault("KR555", Checks.NONE);
        fault("KR000P0aaR555P3hh", Checks.NONE);
        fault("KP0aaXP9zz", 5);
        fault("KP0aa\u0000", 5);
        fault("KP0aa\u00ff", 5);
        fault("KP0aaP4", 6);
        fault("KRaaa", 2);
        fault("KP0a0", 4);
    }

    @Says("Terms 1: its length, if it is only not at its end; NONE: none.")
    static void faultAtTheEnd() {
        fault("", 0);
        fault("K", Checks.NONE);
        fault("KP", 2);
        fault("KP0", 3);
        fault("KP0a", 4);
        fault("KR", 2);
        fault("KR0", 3);
        fault("KR01", 4);
        fault("KP0aaR01", 8);
    }

    @Says({"Terms 1: 5, PEOPLE 0, 1, .. (5 at most)", "Terms 1: 4 RULES at most"})
    static void faultByTooMany() {
        String people = "P0aaP0aaP0aaP0aaP0aa";
        String rules = "R000R000R000R000";
        fault("K" + people, Checks.NONE);
        fault("K" + people + "P", 21);
        fault("K" + people + "R", 22);
        fault("K" + rules, Checks.NONE);
        fault("K" + rules + "R", 17);
        fault("K" + rules + "P", 18);
        fault("K" + rules + people, Checks.NONE);
        fault("K" + rules + people + "P0a", 37);
        fault("K" + people + rules + "R00", 37);
    }

    private static void fault(String text, int want) {
        KnowsBetter made = Checks.written(text);
        CHECKS.due("fault() of " + text, made.fault(), want);
        CHECKS.due("fault() again of " + text, made.fault(), want);
        CHECKS.due("about(6) of " + text, made.about(6), text.length());
        if (want != Checks.NONE) {
            CHECKS.due("table() of " + text, made.table(), Checks.LATE);
        }
    }
}
