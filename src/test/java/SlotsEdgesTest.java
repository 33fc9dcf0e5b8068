/** The boundaries of promises 28 and 29, and of what "Terms" say of SLOTS. */
public final class SlotsEdgesTest {
    private static final Checks CHECKS = new Checks();

    public static void main(String[] args) throws ReflectiveOperationException {
        CHECKS.run(SlotsEdgesTest.class);
        CHECKS.end("SlotsEdgesTest");
    }

    // ---- promise 28

    @Says(value = "Promise 28: UNKNOWN.", by = "SLOTS 0 .. 1")
    static void keepIn0And1() {
        KnowsBetter made = Checks.table("KP0aa");
        CHECKS.due("slot -1", made.keep(-1), -1);
        CHECKS.due("slot 2", made.keep(2), -1);
        CHECKS.due("slot 32", made.keep(32), -1);
        CHECKS.due("the most", made.keep(Integer.MAX_VALUE), -1);
        CHECKS.due("the least", made.keep(Integer.MIN_VALUE), -1);
        CHECKS.due("none is kept by that", made.again(0), -3);
        CHECKS.due("none is kept by that", made.again(1), -3);
        CHECKS.due("slot 0", made.keep(0), 0);
        CHECKS.due("slot 1", made.keep(1), 0);
    }

    @Says(value = "Promise 28: They are kept: FINES of all.", by = "none, and some of each")
    static void keepAnswersFines() {
        KnowsBetter made = Checks.table("KP0aaP2baP2baP2baP2ba");
        CHECKS.due("none", made.keep(0), 0);
        made.say(0, 0, 2);
        CHECKS.due("of four", made.keep(0), 12);
        CHECKS.due("fines of one of them", made.person(4, 4), 3);
        made.say(0, 0, 1);
        CHECKS.due("of two more", made.keep(1), 24);
        CHECKS.due("kept earlier", made.again(0), 12);
        CHECKS.due("fines of one of them", made.person(4, 4), 3);
    }

    @Says(value = "Promise 28: They are kept", by = "again, over what was kept; the other SLOT stays")
    static void keepOverWhatWasKept() {
        KnowsBetter made = Checks.table("KP0aa");
        made.keep(1);
        made.keep(0);
        made.teach(0, 0);
        made.keep(0);
        made.teach(0, 1);
        made.keep(0);
        made.teach(0, 2);
        made.again(0);
        CHECKS.due("the last one kept", made.person(0, 1), 3);
        made.again(1);
        CHECKS.due("the other slot", made.person(0, 1), 0);
    }

    @Says(value = "Terms 3: (no ACTS when one goes on)", by = "when they are kept the ACTS stay")
    static void keepLeavesActs() {
        KnowsBetter made = Checks.table("KP0aaP0aa");
        for (int act = 0; act < 14; act++) {
            made.change(0, 1);
            made.keep(act % 2);
        }
        CHECKS.due("acts", made.about(4), 14);
        CHECKS.due("undo()", made.undo(), 13);
        CHECKS.due("seat", made.person(0, 3), 1);
    }

    // ---- promise 29

    @Says("Promise 29: UNKNOWN; LATE: none were kept.")
    static void againOf0And1() {
        KnowsBetter made = Checks.table("KP0aa");
        CHECKS.due("slot -1", made.again(-1), -1);
        CHECKS.due("slot 0, none kept", made.again(0), -3);
        CHECKS.due("slot 1, none kept", made.again(1), -3);
        CHECKS.due("slot 2", made.again(2), -1);
        made.keep(1);
        CHECKS.due("slot 0, none kept still", made.again(0), -3);
        CHECKS.due("slot 1", made.again(1), 0);
        CHECKS.due("slot 1 once more", made.again(1), 0);
        made.keep(0);
        CHECKS.due("slot 0", made.again(0), 0);
        CHECKS.due("slot -1", made.again(-1), -1);
        CHECKS.due("slot 2", made.again(2), -1);
        CHECKS.due("slot 32", made.again(32), -1);
        CHECKS.due("the most", made.again(Integer.MAX_VALUE), -1);
        CHECKS.due("the least", made.again(Integer.MIN_VALUE), -1);
    }

    @Says(value = "Promise 29: LATE: none were kept.", by = "at first, and behind a TABLE made anew")
    static void againOfNobody() {
        KnowsBetter made = new KnowsBetter();
        CHECKS.due("at first", made.again(0), -3);
        CHECKS.due("keep nobody", made.keep(0), 0);
        CHECKS.due("again nobody", made.again(0), 0);
        CHECKS.due("still nobody", made.about(0), 0);
        made.write('K');
        made.table();
        CHECKS.due("anew", made.again(0), -3);
        CHECKS.due("keep", made.keep(0), 0);
        made.write('P');
        CHECKS.due("a table that is refused", made.table(), -3);
        CHECKS.due("again", made.again(0), 0);
    }

    @Says(value = "Terms 3: what all were TOLD, SEATS, FINES", by = "of all five")
    static void againOfAllFive() {
        KnowsBetter made = Checks.table("KP0aaP0baP2caP1ehP3hh");
        made.say(1, 1, 1);
        made.say(0, 0, 2);
        made.change(0, 4);
        made.change(1, 2);
        CHECKS.due("keep", made.keep(1), 13);
        int[] told = {0, 1, 3, 60, 63};
        int[] seats = {4, 2, 1, 3, 0};
        int[] fines = {1, 0, 12, 0, 0};
        for (int person = 0; person < 5; person++) {
            CHECKS.due("told ahead", made.person(person, 1), told[person]);
        }
        disturb(made);
        CHECKS.due("again", made.again(1), 13);
        for (int person = 0; person < 5; person++) {
            CHECKS.due("told to " + person, made.person(person, 1), told[person]);
            CHECKS.due("seat of " + person, made.person(person, 3), seats[person]);
            CHECKS.due("fines of " + person, made.person(person, 4), fines[person]);
        }
    }

    private static void disturb(KnowsBetter made) {
        for (int person = 0; person < 5; person++) {
            for (int fact = 0; fact < 6; fact++) {
                made.say(person, fact, 2);
                made.forget(person, fact);
            }
            made.change(person, (person + 2) % 5);
        }
    }

    @Says("Terms 3: (no ACTS when one goes on)")
    static void againForgetsActs() {
        KnowsBetter made = Checks.table("KP0aaP0aa");
        made.keep(0);
        for (int act = 0; act < 15; act++) {
            made.change(0, 1);
        }
        CHECKS.due("acts ahead", made.about(4), 14);
        CHECKS.due("a slot of which nothing was kept", made.again(1), -3);
        CHECKS.due("acts are as they were", made.about(4), 14);
        CHECKS.due("again", made.again(0), 0);
        CHECKS.due("acts", made.about(4), 0);
        CHECKS.due("undo()", made.undo(), -3);
        CHECKS.due("seat", made.person(0, 3), 0);
        made.change(0, 1);
        CHECKS.due("acts from then on", made.about(4), 1);
        CHECKS.due("undo()", made.undo(), 0);
        CHECKS.due("undo()", made.undo(), -3);
    }

    @Says(value = "Promise 29: They are as they were kept", by = "THE TEXT, SEEN, THE SEED are not kept")
    static void againLeavesTheRest() {
        KnowsBetter made = Checks.table("KP0aa");
        made.keep(0);
        made.see(2, 1);
        made.seed(-5);
        made.write('P');
        made.again(0);
        CHECKS.due("seen", made.about(5), 1);
        CHECKS.due("the seed", made.seed(0), -5);
        CHECKS.due("bytes", made.about(6), 6);
    }

    @Says(value = "Promise 29: They are as they were kept: FINES of all.",
        by = "what is kept stays when one goes on from it")
    static void againAndAgain() {
        KnowsBetter made = Checks.table("KP0aaP2ba");
        made.say(0, 0, 1);
        made.keep(0);
        for (int times = 0; times < 3; times++) {
            made.say(0, 0, 1);
            made.teach(0, 4);
            made.change(0, 1);
            CHECKS.due("fines gone on", made.about(2), 24);
            CHECKS.due("again", made.again(0), 12);
            CHECKS.due("told", made.person(0, 1), 0);
            CHECKS.due("seat", made.person(0, 3), 0);
        }
    }
}
