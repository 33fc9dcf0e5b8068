/** The boundaries of promises 14 to 17, and of what "Terms" say of HEARS, SAFE, SEATING and KEEP. */
public final class HearingEdgesTest {
    private static final Checks CHECKS = new Checks();

    public static void main(String[] args) throws ReflectiveOperationException {
        CHECKS.run(HearingEdgesTest.class);
        CHECKS.end("HearingEdgesTest");
    }

    // ---- promise 14

    @Says("Promise 14: UNKNOWN; BAD: voice.")
    static void hearersRefusals() {
        KnowsBetter made = Checks.table("KP0aaP0aaP0aaP0aa");
        CHECKS.due("person -1", made.hearers(-1, 1), -1);
        CHECKS.due("person 0", made.hearers(0, 1), 10);
        CHECKS.due("person 3", made.hearers(3, 1), 5);
        CHECKS.due("person 4", made.hearers(4, 1), -1);
        CHECKS.due("voice 0", made.hearers(0, 0), -2);
        CHECKS.due("voice 1", made.hearers(0, 1), 10);
        CHECKS.due("voice 2", made.hearers(0, 2), 14);
        CHECKS.due("voice 3", made.hearers(0, 3), -2);
        CHECKS.due("unknown ahead of bad", made.hearers(4, 3), -1);
        CHECKS.due("nobody", new KnowsBetter().hearers(0, 1), -1);
    }

    @Says(value = "Promise 14: Who HEARS a PERSON by a VOICE, as bits.", by = "one alone, up to five")
    static void hearersOfOneToFive() {
        int[] near = {0, 2, 6, 10, 18};
        int[] loud = {0, 2, 6, 14, 30};
        for (int people = 1; people <= 5; people++) {
            KnowsBetter made = Checks.table("K" + "P0aa".repeat(people));
            CHECKS.due("voice 1 of " + people, made.hearers(0, 1), near[people - 1]);
            CHECKS.due("voice 2 of " + people, made.hearers(0, 2), loud[people - 1]);
        }
    }

    @Says("Terms 1: One HEARS another one by a VOICE v (1, 2), if it is v FAR at most (WOOL: 1 at most).")
    static void hearersInWool() {
        KnowsBetter made = Checks.table("KP1aaP1aaP1aaP1aaP1aa");
        for (int person = 0; person < 5; person++) {
            int near = 1 << (person + 1) % 5 | 1 << (person + 4) % 5;
            CHECKS.due("voice 1", made.hearers(person, 1), near);
            CHECKS.due("voice 2", made.hearers(person, 2), near);
        }
        KnowsBetter one = Checks.table("KP1aaP0aaP2aaP3aaP0aa");
        CHECKS.due("voice 2 from wool goes 2 far", one.hearers(0, 2), 30);
        CHECKS.due("voice 2 to wool, 2 off", one.hearers(2, 2), 26);
        CHECKS.due("voice 2 to wool, 1 off", one.hearers(1, 2), 29);
        one.change(0, 1);
        CHECKS.due("to wool that has come nearer", one.hearers(2, 2), 27);
        CHECKS.due("to wool that has gone off", one.hearers(4, 2), 14);
    }

    @Says(value = "Terms 1: SEATS 0, 1, .. round a table (as many as PEOPLE, behind the last one comes 0)",
        by = "who HEARS round the end")
    static void hearersRoundTheEnd() {
        KnowsBetter made = Checks.table("KP0aaP0aaP0aaP0aaP0aa");
        CHECKS.due("from seat 0", made.hearers(0, 1), 18);
        CHECKS.due("from seat 4", made.hearers(4, 1), 9);
        made.change(1, 4);
        CHECKS.due("from seat 0", made.hearers(0, 1), 18);
        CHECKS.due("from seat 4, where 1 sits", made.hearers(1, 1), 9);
        CHECKS.due("from seat 1, where 4 sits", made.hearers(4, 1), 5);
        made.change(0, 4);
        CHECKS.due("from seat 1, where 0 sits", made.hearers(0, 1), 20);
    }

    // ---- promise 15

    @Says("Promise 15: SAFE, as bits. UNKNOWN; BAD: voice.")
    static void safeRefusals() {
        KnowsBetter made = Checks.table("KP0baP0caP0daP0abP0ac");
        CHECKS.due("person -1", made.safe(-1, 1), -1);
        CHECKS.due("person 0", made.safe(0, 1), 63 & ~(2 | 16));
        CHECKS.due("person 4", made.safe(4, 1), 63 & ~(1 | 8));
        CHECKS.due("person 5", made.safe(5, 1), -1);
        CHECKS.due("voice 0", made.safe(0, 0), -2);
        CHECKS.due("voice 2", made.safe(0, 2), 63 & ~(3 | 8 | 16));
        CHECKS.due("voice 3", made.safe(0, 3), -2);
        CHECKS.due("unknown ahead of bad", made.safe(5, 3), -1);
        CHECKS.due("nobody", new KnowsBetter().safe(0, 1), -1);
    }

    @Says(value = "Terms 2: SAFE for a PERSON and a VOICE: FACTS (bits) that nobody KNOWS, of such as HEAR it.",
        by = "all, none")
    static void safeAllAndNone() {
        CHECKS.due("one alone that knows all", Checks.table("KP0hh").safe(0, 2), 63);
        CHECKS.due("two, the other one knows all", Checks.table("KP0aaP0hh").safe(0, 1), 0);
        CHECKS.due("two, who says it knows all", Checks.table("KP0hhP0aa").safe(0, 1), 63);
        KnowsBetter made = Checks.table("KP0aaP0aaP2hhP0aaP0aa");
        CHECKS.due("all are known too far off", made.safe(0, 1), 63);
        CHECKS.due("and near enough", made.safe(0, 2), 0);
        KnowsBetter wool = Checks.table("KP0aaP0aaP1hhP1hhP0aa");
        CHECKS.due("wool too far off", wool.safe(0, 2), 63);
        CHECKS.due("wool near enough", wool.safe(1, 2), 0);
    }

    @Says(value = "Terms 2: SAFE for a PERSON and a VOICE: FACTS (bits) that nobody KNOWS", by = "by RULES, too")
    static void safeByRules() {
        KnowsBetter made = Checks.table("KP0aaP0daP0aaP0aaR012R023R034R045");
        CHECKS.due("one knows all by rules", made.safe(0, 1), 0);
        made.forget(1, 1);
        CHECKS.due("and fact 0 alone, without fact 1", made.safe(0, 1), 62);
        CHECKS.due("two together know nothing more", Checks.table("KP0aaP0baP0caR015").safe(0, 1), 60);
    }

    // ---- promise 16

    @Says("Promise 16: UNKNOWN: person, fact; BAD: voice.")
    static void seatingRefusals() {
        KnowsBetter made = Checks.table("KP0hhP0hhP0hh");
        for (int way = 0; way < 4; way++) {
            boolean most = way >= 2;
            boolean figures = way % 2 == 1;
            int due = figures ? 123 : 2;
            CHECKS.due("person -1", made.seating(-1, 0, 1, most, figures), -1);
            CHECKS.due("person 0", made.seating(0, 0, 1, most, figures), due);
            CHECKS.due("person 2", made.seating(2, 0, 1, most, figures), due);
            CHECKS.due("person 3", made.seating(3, 0, 1, most, figures), -1);
            CHECKS.due("fact -1", made.seating(0, -1, 1, most, figures), -1);
            CHECKS.due("fact 5", made.seating(0, 5, 1, most, figures), due);
            CHECKS.due("fact 6", made.seating(0, 6, 1, most, figures), -1);
            CHECKS.due("voice 0", made.seating(0, 0, 0, most, figures), -2);
            CHECKS.due("voice 2", made.seating(0, 0, 2, most, figures), due);
            CHECKS.due("voice 3", made.seating(0, 0, 3, most, figures), -2);
            CHECKS.due("unknown ahead of bad", made.seating(0, 6, 3, most, figures), -1);
            CHECKS.due("nobody", new KnowsBetter().seating(0, 0, 1, most, figures), -1);
        }
    }

    @Says(value = "Terms 2: SEATING for a PERSON, a FACT and a VOICE: of all in which all sit",
        by = "one alone, two, up to five")
    static void seatingOfOneToFive() {
        int[] figures = {1, 12, 123, 1234, 12345};
        int[] near = {0, 1, 2, 2, 2};
        for (int people = 1; people <= 5; people++) {
            KnowsBetter made = Checks.table("K" + "P0ba".repeat(people));
            for (int person = 0; person < people; person++) {
                CHECKS.due("fewest", made.seating(person, 0, 1, false, false), near[people - 1]);
                CHECKS.due("most", made.seating(person, 0, 1, true, false), near[people - 1]);
                CHECKS.due("of like ones the first", made.seating(person, 0, 1, false, true), figures[people - 1]);
                CHECKS.due("of like ones the first", made.seating(person, 0, 1, true, true), figures[people - 1]);
                CHECKS.due("all hear", made.seating(person, 0, 2, true, false), people - 1);
                CHECKS.due("nobody knows", made.seating(person, 1, 2, true, false), 0);
            }
        }
    }

    @Says(value = "Terms 2: PERSON 0 as now", by = "on each SEAT")
    static void seatingKeepsPerson0OnEachSeat() {
        int[] figures = {12345, 21345, 23145, 23415, 23451};
        for (int seat = 0; seat < 5; seat++) {
            KnowsBetter made = Checks.table("KP0aaP0aaP0aaP0aaP0aa");
            if (seat > 0) {
                made.change(0, seat);
            }
            CHECKS.due("0 on seat " + seat, made.seating(1, 0, 1, true, true), figures[seat]);
            CHECKS.due("0 sits there still", made.person(0, 3), seat);
        }
    }

    @Says("Terms 2: of like ones the first (told as figures: who sits on SEAT 0, 1, .., 1 more each, the least "
            + "as a number): how many; the figures.")
    static void seatingFirstOfLikeOnes() {
        KnowsBetter lastTwo = Checks.table("KP0aaP0aaP0aaP0baP0ba");
        CHECKS.due("most that know near 0", lastTwo.seating(0, 0, 1, true, false), 2);
        CHECKS.due("their figures", lastTwo.seating(0, 0, 1, true, true), 14235);
        CHECKS.due("fewest", lastTwo.seating(0, 0, 1, false, false), 0);
        CHECKS.due("their figures", lastTwo.seating(0, 0, 1, false, true), 12453);
        lastTwo.change(1, 4);
        lastTwo.change(2, 3);
        CHECKS.due("as it is now counts not", lastTwo.seating(0, 0, 1, true, true), 14235);
        KnowsBetter middle = Checks.table("KP0baP0baP0aaP0aaP0aa");
        CHECKS.due("2 between 0 and 1", middle.seating(2, 0, 1, true, true), 13245);
        CHECKS.due("how many", middle.seating(2, 0, 1, true, false), 2);
        CHECKS.due("2 off both", middle.seating(2, 0, 1, false, true), 12435);
        CHECKS.due("how many", middle.seating(2, 0, 1, false, false), 0);
    }

    @Says(value = "Terms 2: the one by which fewest (most) that HEAR it KNOW that FACT",
        by = "SHY ones, and WOOL 1 off")
    static void seatingOfShyAndWool() {
        KnowsBetter made = Checks.table("KP0aaP2baP2baP1baP1ba");
        CHECKS.due("wool 2 off, fewest", made.seating(0, 0, 2, false, false), 2);
        CHECKS.due("figures", made.seating(0, 0, 2, false, true), 12453);
        CHECKS.due("wool 1 off, most", made.seating(0, 0, 2, true, false), 4);
        CHECKS.due("figures", made.seating(0, 0, 2, true, true), 14235);
        CHECKS.due("by voice 1 they are alike", made.seating(0, 0, 1, false, false), 2);
        CHECKS.due("figures", made.seating(0, 0, 1, true, true), 12345);
        CHECKS.due("who says it counts not", made.seating(1, 0, 2, true, false), 3);
    }

    @Says(value = "Terms 2: In what follows nothing is changed.", by = "SEATING")
    static void seatingLeavesSeats() {
        KnowsBetter made = Checks.table("KP0aaP0baP0aaP0baP0aa");
        made.change(1, 3);
        made.change(0, 4);
        made.seating(0, 0, 1, true, true);
        made.seating(2, 0, 1, false, false);
        int[] seats = {4, 3, 2, 1, 0};
        for (int person = 0; person < 5; person++) {
            CHECKS.due("seat of " + person, made.person(person, 3), seats[person]);
        }
        CHECKS.due("acts", made.about(4), 2);
    }

    // ---- promise 17

    @Says("Promise 17: KEEP, as bits. UNKNOWN: person, fact.")
    static void keepFromRefusals() {
        KnowsBetter made = Checks.table("KP0hhP0aaP0hh");
        CHECKS.due("person -1", made.keepFrom(-1, 0), -1);
        CHECKS.due("person 0", made.keepFrom(0, 0), 1);
        CHECKS.due("person 2", made.keepFrom(2, 0), 1);
        CHECKS.due("person 3", made.keepFrom(3, 0), -1);
        CHECKS.due("fact -1", made.keepFrom(0, -1), -1);
        CHECKS.due("fact 5", made.keepFrom(0, 5), 32);
        CHECKS.due("fact 6", made.keepFrom(0, 6), -1);
        CHECKS.due("fact 32", made.keepFrom(0, 32), -1);
        CHECKS.due("nobody", new KnowsBetter().keepFrom(0, 0), -1);
    }

    @Says(value = "Terms 2: KEEP a PERSON from a FACT: the fewest FACTS it was TOLD", by = "none")
    static void keepFromWhatItKnowsNot() {
        KnowsBetter made = Checks.table("KP0aaP0caR015");
        CHECKS.due("told nothing", made.keepFrom(0, 5), 0);
        CHECKS.due("half of a rule", made.keepFrom(1, 5), 0);
        CHECKS.due("what it was told alone", made.keepFrom(1, 1), 2);
    }

    @Says(value = "Terms 2: the fewest FACTS it was TOLD (bits; of like ones the least) by which, FORGOT, it does not "
            + "KNOW it.",
        by = "one, up to five")
    static void keepFromOneUpToFive() {
        CHECKS.due("one", Checks.table("KP0hh").keepFrom(0, 5), 32);
        CHECKS.due("two", Checks.table("KP0hhR005").keepFrom(0, 5), 33);
        CHECKS.due("three", Checks.table("KP0hhR005R115").keepFrom(0, 5), 35);
        CHECKS.due("four", Checks.table("KP0hhR005R115R225").keepFrom(0, 5), 39);
        CHECKS.due("five", Checks.table("KP0hhR005R115R225R335").keepFrom(0, 5), 47);
        CHECKS.due("five, from the first", Checks.table("KP0hhR220R330R440R550").keepFrom(0, 0), 61);
        CHECKS.due("only what it was told", Checks.table("KP0baR001R112R223R335").keepFrom(0, 5), 1);
    }

    @Says("Terms 2: (bits; of like ones the least) by which, FORGOT")
    static void keepFromTheLeastOfLikeOnes() {
        CHECKS.due("of 0 and 1", Checks.table("KP0daR015").keepFrom(0, 5), 1);
        CHECKS.due("of 3 and 4", Checks.table("KP0adR435").keepFrom(0, 5), 8);
        CHECKS.due("of two pairs", Checks.table("KP0hbR015R235").keepFrom(0, 5), 5);
        CHECKS.due("fewer ahead of the least", Checks.table("KP0dcR045R145").keepFrom(0, 5), 16);
        CHECKS.due("one of both rules", Checks.table("KP0hhR015R235R445").keepFrom(0, 5), 1 | 4 | 16 | 32);
    }
}
