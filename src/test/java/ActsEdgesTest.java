/** The boundaries of promises 9 to 13, and of what "Terms" say of SAID, TAUGHT, FORGOT, CHANGED and ACTS. */
public final class ActsEdgesTest {
    private static final Checks CHECKS = new Checks();
    private static final String FIVE_THAT_KNOW_NOTHING = "KP0aaP0aaP0aaP0aaP0aa";

    public static void main(String[] args) throws ReflectiveOperationException {
        CHECKS.run(ActsEdgesTest.class);
        CHECKS.end("ActsEdgesTest");
    }

    /** Seats of five, person 0's the first figure. */
    private static int seats(KnowsBetter made) {
        int figures = 0;
        for (int person = 0; person < 5; person++) {
            figures = 10 * figures + Math.max(made.person(person, 3), 0);
        }
        return figures;
    }

    // ---- promise 9

    @Says("Promise 9: UNKNOWN: person, fact")
    static void sayPersonAndFact() {
        KnowsBetter made = Checks.table("KP0hhP0hhP0hh");
        CHECKS.due("person -1", made.say(-1, 0, 1), -1);
        CHECKS.due("person 0", made.say(0, 0, 1), 1);
        CHECKS.due("person 2, the last one", made.say(2, 0, 1), 0);
        CHECKS.due("person 3", made.say(3, 0, 1), -1);
        CHECKS.due("fact -1", made.say(0, -1, 1), -1);
        CHECKS.due("fact 5, the last one", made.say(0, 5, 1), 1);
        CHECKS.due("fact 6", made.say(0, 6, 1), -1);
        CHECKS.due("fact 32", made.say(0, 32, 1), -1);
        CHECKS.due("acts", made.about(4), 3);
    }

    @Says("Promise 9: BAD: voice.")
    static void sayVoice() {
        KnowsBetter made = Checks.table("KP0aaP0aaP0baP0aa");
        CHECKS.due("voice 0", made.say(0, 0, 0), -2);
        CHECKS.due("voice 1", made.say(0, 0, 1), -9);
        CHECKS.due("voice 2", made.say(0, 0, 2), 2);
        CHECKS.due("voice 3", made.say(0, 0, 3), -2);
        CHECKS.due("voice -1", made.say(0, 0, -1), -2);
        CHECKS.due("acts", made.about(4), 2);
    }

    @Says("Promise 9: SAID: who puts it right; NONE.")
    static void sayOfNobodyElse() {
        KnowsBetter made = Checks.table("KP0hh");
        for (int fact = 0; fact < 6; fact++) {
            CHECKS.due("one alone says " + fact, made.say(0, fact, 2), -9);
        }
        CHECKS.due("fines", made.about(2), 0);
        CHECKS.due("acts", made.about(4), 6);
    }

    @Says("Terms 1: One HEARS another one by a VOICE v (1, 2), if it is v FAR at most")
    static void tellsThoseThatHear() {
        KnowsBetter near = Checks.table("KP0aaP0baP0aaP0aaP0aa");
        CHECKS.due("by voice 1", near.say(0, 0, 1), 1);
        CHECKS.due("told 1 off", near.person(4, 1), 1);
        CHECKS.due("not told 2 off", near.person(2, 1), 0);
        CHECKS.due("not told 2 off", near.person(3, 1), 0);
        KnowsBetter loud = Checks.table("KP0aaP0baP0aaP0aaP0aa");
        CHECKS.due("by voice 2", loud.say(0, 0, 2), 1);
        CHECKS.due("told 2 off", loud.person(2, 1), 1);
        CHECKS.due("told 2 off", loud.person(3, 1), 1);
        CHECKS.due("one does not hear itself", loud.person(0, 1), 0);
    }

    @Says("Terms 1: (WOOL: 1 at most)")
    static void woolHears1OffAtMost() {
        KnowsBetter made = Checks.table("KP0aaP1aaP1baP1baP0aa");
        CHECKS.due("wool 2 off puts nothing right", made.say(0, 0, 2), -9);
        CHECKS.due("no fines, either", made.about(2), 0);
        CHECKS.due("wool 1 off does", made.say(1, 0, 2), 2);
        CHECKS.due("told without wool, 1 off", made.person(0, 1), 1);
        CHECKS.due("told without wool, 2 off from one in wool", made.person(4, 1), 1);
        KnowsBetter told = Checks.table("KP0aaP1aaP1aaP1aaP0ba");
        CHECKS.due("by voice 2", told.say(0, 0, 2), 4);
        CHECKS.due("wool 1 off is told", told.person(1, 1), 1);
        CHECKS.due("wool 2 off is not", told.person(2, 1) + told.person(3, 1), 0);
    }

    @Says("Terms 1: the first one that is not SHY, going from SEAT to SEAT (upwards) from the one that said it, does")
    static void firstOneUpwardsFromEachSeat() {
        KnowsBetter made = Checks.table("KP0baP0baP0baP0baP0ba");
        for (int person = 0; person < 5; person++) {
            CHECKS.due("next to " + person, made.say(person, 0, 1), (person + 1) % 5);
            CHECKS.due("next to " + person + ", loud", made.say(person, 0, 2), (person + 1) % 5);
        }
        KnowsBetter lastOne = Checks.table("KP2baP2baP0aaP2baP0ba");
        CHECKS.due("the last one going round", lastOne.say(0, 0, 2), 4);
        KnowsBetter round = Checks.table("KP2baP0baP0aaP2baP2ba");
        CHECKS.due("the last one going round from 2", round.say(2, 0, 2), 1);
        CHECKS.due("no fines for shy ones", round.person(0, 4) + round.person(3, 4) + round.person(4, 4), 0);
    }

    @Says(value = "Terms 1: then all that HEAR are TOLD that FACT", by = "who knew it by a RULE, and who is SHY, too")
    static void allThatHearAreTold() {
        KnowsBetter made = Checks.table("KP0aaP3daP2aaP2haP1aaR012");
        CHECKS.due("by a rule", made.say(0, 2, 2), 1);
        CHECKS.due("told to who put it right", made.person(1, 1), 7);
        CHECKS.due("told to a shy one", made.person(2, 1), 4);
        CHECKS.due("told it was before", made.person(3, 1), 7);
        CHECKS.due("told to wool", made.person(4, 1), 4);
        CHECKS.due("not to who said it", made.person(0, 1), 0);
    }

    @Says("Terms 1: and who said it has 1 of FINES (LICENSED: none).")
    static void finesOfWhoSaidIt() {
        int[] due = {1, 1, 1, 0};
        for (int kind = 0; kind < 4; kind++) {
            KnowsBetter made = Checks.table("KP" + kind + "aaP0ba");
            CHECKS.due("put right, kind " + kind, made.say(0, 0, 1), 1);
            CHECKS.due("fines of kind " + kind, made.person(0, 4), due[kind]);
            CHECKS.due("fines of who put it right", made.person(1, 4), 0);
            CHECKS.due("once more", made.say(0, 0, 2), 1);
            CHECKS.due("fines of all", made.about(2), 2 * due[kind]);
        }
    }

    @Says(value = "Terms 1: must put it right: the first one that is not SHY", by = "PLAIN, WOOL, LICENSED")
    static void eachKindPutsRightButTheShy() {
        int[] due = {1, 1, -9, 1};
        for (int kind = 0; kind < 4; kind++) {
            KnowsBetter made = Checks.table("KP0aaP" + kind + "ba");
            CHECKS.due("kind " + kind, made.say(0, 0, 1), due[kind]);
        }
    }

    @Says("Terms 1: If all of them are SHY, each of them has 12 by how many they are (cut) of FINES.")
    static void oneToFourShyOnes() {
        int[] each = {12, 6, 4, 3};
        for (int kind = 0; kind < 4; kind++) {
            for (int shy = 1; shy <= 4; shy++) {
                KnowsBetter made = Checks.table("KP" + kind + "aa" + "P2ba".repeat(shy) + "P0aa".repeat(4 - shy));
                CHECKS.due(shy + " shy ones", made.say(0, 0, 2), -9);
                for (int person = 1; person < 5; person++) {
                    CHECKS.due("fines of " + person + ", shy " + shy, made.person(person, 4),
                        person <= shy ? each[shy - 1] : 0);
                    CHECKS.due("told", made.person(person, 1), person <= shy ? 1 : 0);
                }
                CHECKS.due("who said it, of kind " + kind, made.person(0, 4), 0);
                CHECKS.due("fines of all", made.about(2), 12);
                CHECKS.due("acts", made.about(4), 1);
            }
        }
    }

    @Says(value = "Terms 1: If all of them are SHY",
        by = "all that KNOW it, of such as HEAR: not who hears and knows not")
    static void shyOnesThatKnowNotOrHearNotPayNothing() {
        KnowsBetter made = Checks.table("KP0aaP2baP2baP2baP2aa");
        CHECKS.due("by voice 1", made.say(0, 0, 1), -9);
        CHECKS.due("who hears and knows", made.person(1, 4), 12);
        CHECKS.due("who hears not", made.person(2, 4) + made.person(3, 4), 0);
        CHECKS.due("who knows not", made.person(4, 4), 0);
        KnowsBetter byRule = Checks.table("KP0aaP2daP2caR015");
        CHECKS.due("known by a rule", byRule.say(0, 5, 1), -9);
        CHECKS.due("one of them", byRule.person(1, 4), 12);
        CHECKS.due("not told it", byRule.person(1, 1), 3);
    }

    @Says("Terms 1: If nobody KNOWS it, nothing is (it is an ACT all the same).")
    static void nobodyKnowsIt() {
        KnowsBetter made = Checks.table("KP0aaP2aaP0baP1aaP2aa");
        CHECKS.due("nobody at all", made.say(0, 5, 2), -9);
        CHECKS.due("who knows it hears not", made.say(0, 0, 1), -9);
        CHECKS.due("who knows it says it", made.say(2, 0, 2), -9);
        CHECKS.due("acts", made.about(4), 3);
        CHECKS.due("fines", made.about(2), 0);
        for (int person = 0; person < 5; person++) {
            CHECKS.due("told to " + person, made.person(person, 1), person == 2 ? 1 : 0);
        }
        CHECKS.due("undone", made.undo(), 2);
    }

    // ---- promises 10, 11

    @Says("Promise 10: UNKNOWN: person, fact; LATE: it was TOLD that.")
    static void teachRefusals() {
        KnowsBetter made = Checks.table("KP0aaP0aa");
        CHECKS.due("person -1", made.teach(-1, 0), -1);
        CHECKS.due("person 2", made.teach(2, 0), -1);
        CHECKS.due("fact -1", made.teach(0, -1), -1);
        CHECKS.due("fact 6", made.teach(0, 6), -1);
        CHECKS.due("fact 38", made.teach(0, 38), -1);
        CHECKS.due("fact 0", made.teach(0, 0), 1);
        CHECKS.due("fact 0 again", made.teach(0, 0), -3);
        CHECKS.due("fact 5", made.teach(1, 5), 32);
        CHECKS.due("fact 5 again", made.teach(1, 5), -3);
        CHECKS.due("acts", made.about(4), 2);
    }

    @Says(value = "Promise 10: TAUGHT: what it KNOWS then, as bits", by = "from nothing to all; of RULES, too")
    static void teachFromNothingToAll() {
        KnowsBetter made = Checks.table("KP0aaP0aaR234R111");
        int[] due = {1, 3, 7, 31, 31, 63};
        for (int fact = 0; fact < 6; fact++) {
            CHECKS.due("teach " + fact, made.teach(0, fact), due[fact]);
        }
        CHECKS.due("all told", made.person(0, 1), 63);
        CHECKS.due("the other one", made.person(1, 1), 0);
    }

    @Says(value = "Promise 10: LATE: it was TOLD that.", by = "KNOWN by a RULE alone is not TOLD")
    static void teachWhatARuleGives() {
        KnowsBetter made = Checks.table("KP0baR005");
        CHECKS.due("it knows it", made.person(0, 2), 33);
        CHECKS.due("teach", made.teach(0, 5), 33);
        CHECKS.due("told", made.person(0, 1), 33);
        CHECKS.due("teach again", made.teach(0, 5), -3);
    }

    @Says("Promise 11: UNKNOWN: person, fact; LATE: it was not TOLD that.")
    static void forgetRefusals() {
        KnowsBetter made = Checks.table("KP0hhP0aa");
        CHECKS.due("person -1", made.forget(-1, 0), -1);
        CHECKS.due("person 2", made.forget(2, 0), -1);
        CHECKS.due("fact -1", made.forget(0, -1), -1);
        CHECKS.due("fact 6", made.forget(0, 6), -1);
        CHECKS.due("fact 32", made.forget(0, 32), -1);
        CHECKS.due("fact 0", made.forget(0, 0), 62);
        CHECKS.due("fact 0 again", made.forget(0, 0), -3);
        CHECKS.due("fact 5", made.forget(0, 5), 30);
        CHECKS.due("fact 5 again", made.forget(0, 5), -3);
        CHECKS.due("never told", made.forget(1, 0), -3);
        CHECKS.due("acts", made.about(4), 2);
    }

    @Says(value = "Promise 11: FORGOT: what it KNOWS then, as bits", by = "from all to nothing; of RULES, too")
    static void forgetFromAllToNothing() {
        KnowsBetter made = Checks.table("KP0hhP0hhR450");
        int[] due = {63, 61, 57, 49, 32, 0};
        for (int fact = 0; fact < 6; fact++) {
            CHECKS.due("forget " + fact, made.forget(0, fact), due[fact]);
        }
        CHECKS.due("none told", made.person(0, 1), 0);
        CHECKS.due("the other one", made.person(1, 1), 63);
    }

    @Says(value = "Promise 11: LATE: it was not TOLD that.", by = "KNOWN by a RULE alone is not TOLD")
    static void forgetWhatARuleGives() {
        KnowsBetter made = Checks.table("KP0bbR005R053");
        CHECKS.due("it knows it", made.person(0, 2), 41);
        CHECKS.due("forget", made.forget(0, 5), -3);
        CHECKS.due("told it and knows it", made.forget(0, 3), 41);
        CHECKS.due("forget it again", made.forget(0, 3), -3);
    }

    // ---- promise 12

    @Says("Promise 12: UNKNOWN: person, other; BAD: both are one.")
    static void changeRefusals() {
        KnowsBetter made = Checks.table("KP0aaP0aaP0aa");
        CHECKS.due("person -1", made.change(-1, 0), -1);
        CHECKS.due("person 3", made.change(3, 0), -1);
        CHECKS.due("other -1", made.change(0, -1), -1);
        CHECKS.due("other 3", made.change(0, 3), -1);
        CHECKS.due("both are one, and unknown", made.change(3, 3), -1);
        CHECKS.due("both are one, and unknown", made.change(-1, -1), -1);
        for (int person = 0; person < 3; person++) {
            CHECKS.due("both are one", made.change(person, person), -2);
        }
        CHECKS.due("acts", made.about(4), 0);
        CHECKS.due("nobody", new KnowsBetter().change(0, 1), -1);
    }

    @Says("Promise 12: CHANGED: the SEAT of the one then.")
    static void changeOfFirstAndLastSeat() {
        KnowsBetter made = Checks.table(FIVE_THAT_KNOW_NOTHING);
        CHECKS.due("from the first seat to the last", made.change(0, 4), 4);
        CHECKS.due("seats", seats(made), 41230);
        CHECKS.due("and back", made.change(0, 4), 0);
        CHECKS.due("seats", seats(made), 1234);
        CHECKS.due("from the last seat to the first", made.change(4, 0), 0);
        CHECKS.due("seats", seats(made), 41230);
        CHECKS.due("acts", made.about(4), 3);
    }

    // ---- promise 13

    @Says("Promise 13: LATE: there is none.")
    static void undoOfNoAct() {
        CHECKS.due("nobody", new KnowsBetter().undo(), -3);
        KnowsBetter made = Checks.table("KP0aa");
        CHECKS.due("no act yet", made.undo(), -3);
        made.teach(0, 0);
        CHECKS.due("the only one", made.undo(), 0);
        CHECKS.due("none is left", made.undo(), -3);
        CHECKS.due("nothing more is undone", made.person(0, 1), 0);
    }

    @Says("Terms 1: ACTS (SAID, TAUGHT, FORGOT, CHANGED) are a row (14 at most; when it is full, the first one "
            + "is forgotten)")
    static void fourteenActsAndMore() {
        for (int acts = 12; acts <= 31; acts++) {
            KnowsBetter made = Checks.table("KP0aaP2ba");
            for (int act = 1; act <= acts; act++) {
                made.say(0, 0, 1);
            }
            int kept = Math.min(acts, 14);
            CHECKS.due("acts of " + acts, made.about(4), kept);
            for (int left = kept - 1; left >= 0; left--) {
                CHECKS.due("undo() of " + acts, made.undo(), left);
            }
            CHECKS.due("one more of " + acts, made.undo(), -3);
            CHECKS.due("what can't be undone of " + acts, made.about(2), 12 * (acts - kept));
        }
    }

    @Says(value = "Terms 1: ACTS (SAID, TAUGHT, FORGOT, CHANGED) are a row", by = "of each sort one more than 14")
    static void eachSortForgetsTheFirst() {
        for (int sort = 0; sort < 4; sort++) {
            KnowsBetter made = Checks.table("KP0gaP0ba");
            CHECKS.due("sort " + sort, oneAct(made, sort), new int[] {1, 7, 2, 1}[sort]);
            int told = made.person(0, 1);
            int seat = made.person(0, 3);
            int fines = made.about(2);
            for (int act = 0; act < 14; act++) {
                made.teach(1, 5);
                made.undo();
                made.change(0, 1);
            }
            CHECKS.due("acts", made.about(4), 14);
            for (int left = 13; left >= 0; left--) {
                CHECKS.due("undo()", made.undo(), left);
            }
            CHECKS.due("sort " + sort + " stays done, told", made.person(0, 1), told);
            CHECKS.due("sort " + sort + " stays done, seat", made.person(0, 3), seat);
            CHECKS.due("sort " + sort + " stays done, fines", made.about(2), fines);
        }
    }

    private static int oneAct(KnowsBetter made, int sort) {
        switch (sort) {
            case 0: return made.say(0, 0, 1);
            case 1: return made.teach(0, 0);
            case 2: return made.forget(0, 2);
            default: return made.change(0, 1);
        }
    }

    @Says(value = "Promise 13: The last ACT is undone: how many are left.", by = "each sort, the last one first")
    static void lastActFirst() {
        KnowsBetter made = Checks.table("KP0gaP0baP0aaP2hhP2hh");
        for (int sort = 0; sort < 4; sort++) {
            CHECKS.due("sort " + sort, oneAct(made, sort), new int[] {1, 7, 3, 1}[sort]);
        }
        CHECKS.due("one that fines the shy", made.say(2, 4, 1), -9);
        CHECKS.due("fines", made.about(2), 13);
        CHECKS.due("undo it", made.undo(), 4);
        CHECKS.due("fines of the shy", made.person(3, 4), 0);
        CHECKS.due("fines of all", made.about(2), 1);
        CHECKS.due("undo changed", made.undo(), 3);
        CHECKS.due("seats", seats(made), 1234);
        CHECKS.due("undo forgot", made.undo(), 2);
        CHECKS.due("told", made.person(0, 1), 7);
        CHECKS.due("undo taught", made.undo(), 1);
        CHECKS.due("told", made.person(0, 1), 6);
        CHECKS.due("told to who heard", made.person(4, 1), 63);
        CHECKS.due("undo said", made.undo(), 0);
        CHECKS.due("fines of all", made.about(2), 0);
    }

    @Says(value = "Promise 13: The last ACT is undone", by = "SAID: what those that HEAR were TOLD, too")
    static void undoOfWhatWasTold() {
        KnowsBetter made = Checks.table("KP0aaP0baP0aaP1aaP2aa");
        made.say(0, 0, 2);
        CHECKS.due("told", made.person(2, 1) + made.person(4, 1), 2);
        CHECKS.due("undo()", made.undo(), 0);
        int[] due = {0, 1, 0, 0, 0};
        for (int person = 0; person < 5; person++) {
            CHECKS.due("told to " + person, made.person(person, 1), due[person]);
        }
    }

    @Says(value = "Promise 13: how many are left.", by = "ACTS again behind undone ones, over the end of the row")
    static void actsBehindUndoneOnes() {
        KnowsBetter made = Checks.table("KP0aaP0aa");
        for (int act = 0; act < 14; act++) {
            made.change(0, 1);
        }
        for (int times = 0; times < 20; times++) {
            made.undo();
            made.undo();
            CHECKS.due("taught", made.teach(1, 3), 8);
            CHECKS.due("acts", made.about(4), 13);
            CHECKS.due("forgot", made.forget(1, 3), 0);
            CHECKS.due("acts", made.about(4), 14);
        }
        CHECKS.due("undo forgot", made.undo(), 13);
        CHECKS.due("told", made.person(1, 1), 8);
        CHECKS.due("undo taught", made.undo(), 12);
        CHECKS.due("told", made.person(1, 1), 0);
        CHECKS.due("seat", made.person(0, 3), 0);
        CHECKS.due("undo changed", made.undo(), 11);
        CHECKS.due("seat", made.person(0, 3), 1);
    }
}
