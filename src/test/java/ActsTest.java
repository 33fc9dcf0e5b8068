/** Promises 9 to 13: say, teach, forget, change, undo. */
public final class ActsTest {
    private static final Checks CHECKS = new Checks();

    public static void main(String[] args) throws ReflectiveOperationException {
        CHECKS.run(ActsTest.class);
        CHECKS.end("ActsTest");
    }

    @Says({
        "Promise 9: SAID: who puts it right",
        "Terms 1: SAID: a PERSON says a FACT falsely by a VOICE. Those that KNOW it, of such as HEAR, must put "
            + "it right: the first one that is not SHY, going from SEAT to SEAT (upwards) from the one that said "
            + "it, does"})
    static void firstUpwardsPutsRight() {
        KnowsBetter made = Checks.table("KP0baP0baP0aaP0baP0ba");
        CHECKS.due("from 0", made.say(0, 0, 1), 1);
        CHECKS.due("from 1, past one that does not know", made.say(1, 0, 2), 3);
        CHECKS.due("from 4, round the end", made.say(4, 0, 2), 0);
        CHECKS.due("from 3", made.say(3, 0, 1), 4);
        KnowsBetter shyFirst = Checks.table("KP0aaP2baP0aaP0baP0ba");
        CHECKS.due("a shy one is passed over", shyFirst.say(0, 0, 2), 3);
        CHECKS.due("its fines", shyFirst.person(1, 4), 0);
        KnowsBetter byRule = Checks.table("KP0aaP0daP0haR012");
        CHECKS.due("who knows by a rule", byRule.say(0, 2, 1), 1);
        CHECKS.due("is told it, too", byRule.person(1, 1), 7);
    }

    @Says(value = "Terms 1: going from SEAT to SEAT (upwards) from the one that said it",
        by = "of SEATS, not of PEOPLE")
    static void seatsCountNotPeople() {
        KnowsBetter made = Checks.table("KP0aaP0baP0aaP0ba");
        made.change(1, 3);
        CHECKS.due("who sits next", made.say(0, 0, 1), 3);
        made.change(0, 2);
        CHECKS.due("from seat 2", made.say(0, 0, 1), 1);
    }

    @Says("Terms 1: then all that HEAR are TOLD that FACT, and who said it has 1 of FINES")
    static void hearersAreTold() {
        KnowsBetter made = Checks.table("KP0aaP0baP1aaP2aaP0aa");
        CHECKS.due("say(0, 0, 2)", made.say(0, 0, 2), 1);
        int[] told = {0, 1, 0, 1, 1};
        for (int person = 0; person < 5; person++) {
            CHECKS.due("told to " + person, made.person(person, 1), told[person]);
        }
        CHECKS.due("the speaker's fines", made.person(0, 4), 1);
        CHECKS.due("all fines", made.about(2), 1);
        made.say(0, 0, 2);
        CHECKS.due("fines add up", made.person(0, 4), 2);
        made.teach(2, 0);
        CHECKS.due("wool puts right, too", made.say(1, 0, 1), 2);
        CHECKS.due("person 0 is told, too", made.person(0, 1), 1);
    }

    @Says("Terms 1: who said it has 1 of FINES (LICENSED: none).")
    static void licensedPaysNothing() {
        KnowsBetter made = Checks.table("KP3aaP3ba");
        CHECKS.due("a licensed one puts right", made.say(0, 0, 1), 1);
        CHECKS.due("no fines", made.about(2), 0);
        CHECKS.due("the liar was told nothing", made.say(1, 0, 1), Checks.NONE);
        made.teach(0, 0);
        CHECKS.due("nor for what it knows", made.say(1, 0, 1), 0);
        CHECKS.due("no fines", made.about(2), 0);
        KnowsBetter shy = Checks.table("KP3aaP2ba");
        CHECKS.due("all are shy", shy.say(0, 0, 1), Checks.NONE);
        CHECKS.due("a license spares only the liar", shy.person(1, 4), 12);
        CHECKS.due("the liar", shy.person(0, 4), 0);
    }

    @Says("Terms 1: If all of them are SHY, each of them has 12 by how many they are (cut) of FINES.")
    static void shyOnesShareGuilt() {
        int[] each = {12, 6, 4, 3};
        for (int shy = 1; shy <= 4; shy++) {
            StringBuilder text = new StringBuilder("KP0aa");
            for (int i = 0; i < shy; i++) {
                text.append("P2ba");
            }
            for (int i = shy; i < 4; i++) {
                text.append("P0aa");
            }
            KnowsBetter made = Checks.table(text.toString());
            CHECKS.due(shy + " shy", made.say(0, 0, 2), Checks.NONE);
            CHECKS.due("fines of the first of " + shy, made.person(1, 4), each[shy - 1]);
            CHECKS.due("fines of all of " + shy, made.about(2), 12);
            CHECKS.due("the liar of " + shy, made.person(0, 4), 0);
            CHECKS.due("nobody is told of " + shy, made.person(4, 1), shy == 4 ? 1 : 0);
            CHECKS.due("an act", made.about(4), 1);
        }
    }

    @Says(value = "Terms 1: If all of them are SHY, each of them has 12 by how many they are (cut) of FINES.",
        by = "said from each SEAT")
    static void shyOnesOnAllSeats() {
        KnowsBetter made = Checks.table("KP2baP2baP2baP2baP2ba");
        for (int liar = 0; liar < 5; liar++) {
            CHECKS.due("liar " + liar, made.say(liar, 0, 1), Checks.NONE);
            CHECKS.due("its two neighbours pay", made.about(2), 12);
            CHECKS.due("the next one", made.person((liar + 1) % 5, 4), 6);
            CHECKS.due("the last one", made.person((liar + 4) % 5, 4), 6);
            made.undo();
        }
    }

    @Says({
        "Promise 9: SAID: who puts it right; NONE.",
        "Terms 1: If nobody KNOWS it, nothing is (it is an ACT all the same)."})
    static void nobodyKnows() {
        KnowsBetter made = Checks.table("KP0aaP0aaP0baP0aaP0aa");
        CHECKS.due("who knows is too far", made.say(0, 0, 1), Checks.NONE);
        CHECKS.due("only the liar knows", made.say(2, 0, 2), Checks.NONE);
        CHECKS.due("acts all the same", made.about(4), 2);
        CHECKS.due("no fines", made.about(2), 0);
        CHECKS.due("nobody is told", made.person(1, 1) | made.person(3, 1), 0);
        CHECKS.due("one alone", Checks.table("KP0hh").say(0, 0, 2), Checks.NONE);
    }

    @Says("Promise 9: UNKNOWN: person, fact; BAD: voice.")
    static void sayRefusals() {
        KnowsBetter made = Checks.table("KP0aaP0ba");
        CHECKS.due("say(2, 0, 1)", made.say(2, 0, 1), Checks.UNKNOWN);
        CHECKS.due("say(-1, 0, 1)", made.say(-1, 0, 1), Checks.UNKNOWN);
        CHECKS.due("say(0, 6, 1)", made.say(0, 6, 1), Checks.UNKNOWN);
        CHECKS.due("say(0, -1, 1)", made.say(0, -1, 1), Checks.UNKNOWN);
        CHECKS.due("say(0, 0, 0)", made.say(0, 0, 0), Checks.BAD);
        CHECKS.due("say(0, 0, 3)", made.say(0, 0, 3), Checks.BAD);
        CHECKS.due("say(0, 6, 3)", made.say(0, 6, 3), Checks.UNKNOWN);
        CHECKS.due("say(9, 0, 3)", made.say(9, 0, 3), Checks.UNKNOWN);
        CHECKS.due("acts", made.about(4), 0);
        CHECKS.due("fines", made.about(2), 0);
    }

    @Says({
        "Promise 10: TAUGHT: what it KNOWS then, as bits. UNKNOWN: person, fact; LATE: it was TOLD that.",
        "Promise 11: FORGOT: what it KNOWS then, as bits. UNKNOWN: person, fact; LATE: it was not TOLD that.",
        "Terms 1: TAUGHT: one is TOLD a FACT. FORGOT: one is not TOLD a FACT any more."})
    static void teachAndForget() {
        KnowsBetter made = Checks.table("KP0baP0aaR012");
        CHECKS.due("teach by a rule", made.teach(0, 1), 7);
        CHECKS.due("known, not told", made.person(0, 1), 3);
        CHECKS.due("teach what it knows by a rule", made.teach(0, 2), 7);
        CHECKS.due("teach again", made.teach(0, 2), Checks.LATE);
        CHECKS.due("forget 0", made.forget(0, 0), 6);
        CHECKS.due("forget 0 again", made.forget(0, 0), Checks.LATE);
        CHECKS.due("forget never told", made.forget(1, 5), Checks.LATE);
        CHECKS.due("forget what a rule gives", made.forget(0, 2), 2);
        made.teach(0, 0);
        CHECKS.due("known by a rule is not told", made.forget(0, 2), Checks.LATE);
        CHECKS.due("the other one", made.person(1, 1), 0);
        int[][] unknown = {{2, 0}, {-1, 0}, {0, 6}, {0, -1}};
        for (int[] pair : unknown) {
            CHECKS.due("teach", made.teach(pair[0], pair[1]), Checks.UNKNOWN);
            CHECKS.due("forget", made.forget(pair[0], pair[1]), Checks.UNKNOWN);
        }
    }

    @Says({
        "Promise 12: CHANGED: the SEAT of the one then. UNKNOWN: person, other; BAD: both are one.",
        "Terms 1: CHANGED: two change their SEATS."})
    static void change() {
        KnowsBetter made = Checks.table("KP0aaP0aaP0aa");
        CHECKS.due("change(0, 2)", made.change(0, 2), 2);
        CHECKS.due("seat of 0", made.person(0, 3), 2);
        CHECKS.due("seat of 2", made.person(2, 3), 0);
        CHECKS.due("change(0, 1)", made.change(0, 1), 1);
        CHECKS.due("seat of 1", made.person(1, 3), 2);
        CHECKS.due("change(1, 1)", made.change(1, 1), Checks.BAD);
        CHECKS.due("change(3, 0)", made.change(3, 0), Checks.UNKNOWN);
        CHECKS.due("change(0, 3)", made.change(0, 3), Checks.UNKNOWN);
        CHECKS.due("change(-1, -1)", made.change(-1, -1), Checks.UNKNOWN);
    }

    @Says({
        "Promise 13: The last ACT is undone: how many are left. LATE: there is none.",
        "Terms 1: the last one can be undone."})
    static void undoOfEachAct() {
        KnowsBetter made = Checks.table("KP0caP0baP2baP2ba");
        made.say(0, 0, 1);
        made.teach(0, 5);
        made.forget(0, 1);
        made.change(0, 3);
        CHECKS.due("undo change", made.undo(), 3);
        CHECKS.due("seats", 10 * made.person(0, 3) + made.person(3, 3), 3);
        CHECKS.due("undo forget", made.undo(), 2);
        CHECKS.due("told", made.person(0, 1), 34);
        CHECKS.due("undo teach", made.undo(), 1);
        CHECKS.due("told", made.person(0, 1), 2);
        CHECKS.due("fines of the liar", made.person(0, 4), 1);
        CHECKS.due("undo say", made.undo(), 0);
        CHECKS.due("fines", made.about(2), 0);
        CHECKS.due("undo nothing", made.undo(), Checks.LATE);
        made.teach(0, 4);
        CHECKS.due("an act behind undone ones", made.about(4), 1);
        CHECKS.due("undo it", made.undo(), 0);
        CHECKS.due("told", made.person(0, 1), 2);
    }

    @Says("Terms 1: (14 at most; when it is full, the first one is forgotten); the last one can be undone.")
    static void fourteenActs() {
        KnowsBetter made = Checks.table("KP0aaP0aa");
        for (int act = 1; act <= 17; act++) {
            if (act % 2 == 1) {
                made.teach(act % 4 / 2, act / 4);
            } else {
                made.change(0, 1);
            }
            CHECKS.due("acts", made.about(4), Math.min(act, 14));
        }
        int told = made.person(0, 1);
        made.undo();
        made.teach(0, 5);
        made.undo();
        for (int left = 12; left >= 0; left--) {
            CHECKS.due("undo", made.undo(), left);
        }
        CHECKS.due("the first three are forgotten", made.undo(), Checks.LATE);
        CHECKS.due("told to 0 at last", told, 0b11111);
        CHECKS.due("told to 1 stays", made.person(1, 1), 0b1);
        CHECKS.due("told to 0 is undone", made.person(0, 1), 0b1);
        CHECKS.due("seats of one change", made.person(0, 3), 1);
    }

    @Says(value = "Terms 4: What is refused changes nothing.", by = "it is no ACT")
    static void refusedIsNoAct() {
        KnowsBetter made = Checks.table("KP0baP0aa");
        made.teach(0, 0);
        made.forget(0, 3);
        made.change(0, 0);
        made.say(0, 0, 3);
        made.teach(2, 0);
        CHECKS.due("acts", made.about(4), 0);
    }
}
