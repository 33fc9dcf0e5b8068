/** Promises 14 to 16: hearers, safe, seating. */
public final class HearingTest {
    private static final Checks CHECKS = new Checks();

    public static void main(String[] args) throws ReflectiveOperationException {
        CHECKS.run(HearingTest.class);
        CHECKS.end("HearingTest");
    }

    @Says({
        "Promise 14: Who HEARS a PERSON by a VOICE, as bits.",
        "Terms 1: One HEARS another one by a VOICE v (1, 2), if it is v FAR at most"})
    static void hearers() {
        KnowsBetter made = Checks.table("KP0aaP0aaP0aaP0aaP0aa");
        CHECKS.due("hearers(0, 1)", made.hearers(0, 1), 0b10010);
        CHECKS.due("hearers(0, 2)", made.hearers(0, 2), 0b11110);
        CHECKS.due("hearers(4, 1)", made.hearers(4, 1), 0b01001);
        CHECKS.due("hearers(3, 2)", made.hearers(3, 2), 0b10111);
        made.change(0, 2);
        CHECKS.due("hearers(0, 1) changed", made.hearers(0, 1), 0b01010);
        KnowsBetter four = Checks.table("KP0aaP0aaP0aaP0aa");
        CHECKS.due("of four, near", four.hearers(1, 1), 0b0101);
        CHECKS.due("of four, all", four.hearers(1, 2), 0b1101);
        CHECKS.due("of two", Checks.table("KP0aaP0aa").hearers(1, 1), 1);
        CHECKS.due("of one", Checks.table("KP0aa").hearers(0, 2), 0);
    }

    @Says("Terms 1: (WOOL: 1 at most)")
    static void woolHearsNearOnes() {
        KnowsBetter made = Checks.table("KP1aaP1aaP2aaP1aaP3aa");
        CHECKS.due("from wool", made.hearers(0, 2), 0b10110);
        CHECKS.due("wool by 1", made.hearers(0, 1), 0b10010);
        CHECKS.due("wool by 2", made.hearers(2, 2), 0b11010);
        CHECKS.due("wool two off", made.hearers(1, 2), 0b10101);
    }

    @Says({"Promise 14: UNKNOWN; BAD: voice.", "Promise 15: UNKNOWN; BAD: voice."})
    static void hearersRefusals() {
        KnowsBetter made = Checks.table("KP0aaP0aa");
        int[][] wrong = {{2, 1}, {-1, 1}, {2, 0}, {2, 3}};
        for (int[] pair : wrong) {
            CHECKS.due("hearers", made.hearers(pair[0], pair[1]), Checks.UNKNOWN);
            CHECKS.due("safe", made.safe(pair[0], pair[1]), Checks.UNKNOWN);
        }
        int[] voices = {0, 3, -1, Integer.MAX_VALUE};
        for (int voice : voices) {
            CHECKS.due("hearers", made.hearers(0, voice), Checks.BAD);
            CHECKS.due("safe", made.safe(0, voice), Checks.BAD);
        }
    }

    @Says({
        "Promise 15: SAFE, as bits.",
        "Terms 2: SAFE for a PERSON and a VOICE: FACTS (bits) that nobody KNOWS, of such as HEAR it."})
    static void safe() {
        KnowsBetter made = Checks.table("KP0hhP0baP0caP1adP2aeR015");
        CHECKS.due("safe(0, 1)", made.safe(0, 1), 63 & ~1 & ~32);
        CHECKS.due("safe(0, 2)", made.safe(0, 2), 63 & ~(1 | 2 | 32));
        CHECKS.due("one that knows all hears it", made.safe(1, 1), 0);
        KnowsBetter alone = Checks.table("KP0hh");
        CHECKS.due("alone", alone.safe(0, 1), 63);
        KnowsBetter rule = Checks.table("KP0aaP0baP0caR015");
        CHECKS.due("who know half each", rule.safe(0, 1), 63 & ~3);
        rule.teach(1, 1);
        CHECKS.due("who knows by a rule", rule.safe(0, 1), 63 & ~35);
        CHECKS.due("nothing is changed", rule.about(4), 1);
    }

    @Says({
        "Promise 16: SEATING: how many (figures = false), the figures (figures = true).",
        "Terms 2: SEATING for a PERSON, a FACT and a VOICE: of all in which all sit, PERSON 0 as now, the one "
            + "by which fewest (most) that HEAR it KNOW that FACT; of like ones the first"})
    static void seatingOfFewestAndMost() {
        // Three of five know; the neighbours of person 0 are two.
        KnowsBetter made = Checks.table("KP0aaP0baP0baP0aaP0ba");
        CHECKS.due("fewest", made.seating(0, 0, 1, false, false), 1);
        CHECKS.due("fewest, figures", made.seating(0, 0, 1, false, true), 12354);
        CHECKS.due("most", made.seating(0, 0, 1, true, false), 2);
        CHECKS.due("most, figures", made.seating(0, 0, 1, true, true), 12345);
        CHECKS.due("all hear", made.seating(0, 0, 2, false, false), 3);
        CHECKS.due("all alike: the least", made.seating(0, 0, 2, true, true), 12345);
        CHECKS.due("another one speaks, fewest", made.seating(1, 0, 1, false, true), 12435);
        CHECKS.due("how many", made.seating(1, 0, 1, false, false), 0);
        CHECKS.due("another one speaks, most", made.seating(1, 0, 1, true, true), 13254);
        CHECKS.due("seats are as they were", made.far(0, 4), 1);
        CHECKS.due("no act", made.about(4), 0);
        CHECKS.due("one alone", Checks.table("KP0ba").seating(0, 0, 1, true, true), 1);
        CHECKS.due("two", Checks.table("KP0baP0ba").seating(1, 0, 1, false, true), 12);
    }

    @Says("Terms 2: of all in which all sit, PERSON 0 as now")
    static void seatingKeepsPersonNought() {
        KnowsBetter made = Checks.table("KP0aaP0aaP0baP0aa");
        made.change(0, 2);
        CHECKS.due("0 stays on seat 2", made.seating(0, 0, 1, true, true), 2314);
        CHECKS.due("and far from who knows", made.seating(0, 0, 1, false, true), 3214);
        made.change(0, 3);
        CHECKS.due("0 stays on seat 3", made.seating(0, 1, 1, false, true), 2341);
        CHECKS.due("fewest on seat 3", made.seating(0, 0, 1, false, true), 2341);
        CHECKS.due("most on seat 3", made.seating(0, 0, 1, true, true), 2431);
    }

    @Says(value = "Terms 2: the one by which fewest (most) that HEAR it KNOW that FACT", by = "by RULES, and in WOOL")
    static void seatingWithRulesAndWool() {
        KnowsBetter made = Checks.table("KP0aaP1daP0daP0baP0caR012");
        CHECKS.due("near ones that know by a rule", made.seating(0, 2, 1, true, false), 2);
        CHECKS.due("wool two off hears nothing", made.seating(0, 2, 2, false, false), 1);
        CHECKS.due("wool sits two off", made.seating(0, 2, 2, false, true), 13245);
        CHECKS.due("wool sits near", made.seating(0, 2, 2, true, true), 12345);
    }

    @Says("Promise 16: UNKNOWN: person, fact; BAD: voice.")
    static void seatingRefusals() {
        KnowsBetter made = Checks.table("KP0aaP0aa");
        CHECKS.due("person", made.seating(2, 0, 1, true, true), Checks.UNKNOWN);
        CHECKS.due("person", made.seating(-1, 0, 0, true, false), Checks.UNKNOWN);
        CHECKS.due("fact", made.seating(0, 6, 1, true, true), Checks.UNKNOWN);
        CHECKS.due("fact", made.seating(0, -1, 3, false, true), Checks.UNKNOWN);
        CHECKS.due("voice", made.seating(0, 5, 0, true, true), Checks.BAD);
        CHECKS.due("voice", made.seating(0, 5, 3, true, false), Checks.BAD);
    }
}
