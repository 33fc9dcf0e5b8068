/** Promises 5 to 8: table, about, person, far. */
public final class TableTest {
    private static final Checks CHECKS = new Checks();

    public static void main(String[] args) throws ReflectiveOperationException {
        CHECKS.run(TableTest.class);
        CHECKS.end("TableTest");
    }

    @Says("Promise 5: 10 times PEOPLE, and RULES.")
    static void tableAnswers() {
        CHECKS.due("table() of K", Checks.written("K").table(), 0);
        CHECKS.due("table() of one", Checks.written("KP0aa").table(), 10);
        CHECKS.due("table() of a rule", Checks.written("KR012").table(), 1);
        CHECKS.due("table() of all", Checks.written("KR000P0aaR000P0aaR000P0aaR000P0aaP0aa").table(), 54);
    }

    @Says("Promise 5: THE TEXT is THE TABLE (THE TEXT itself stays; no ACTS; what was kept is gone; SEEN, THE "
            + "SEED stay)")
    static void tableMakesAllAnew() {
        KnowsBetter made = Checks.table("KP0baP2baP0aa");
        made.say(0, 0, 1);
        made.change(0, 1);
        made.teach(2, 4);
        made.keep(0);
        made.keep(1);
        made.see(3, 1);
        made.seed(77);
        CHECKS.due("fines ahead", made.about(2), 12);
        CHECKS.due("table()", made.table(), 30);
        CHECKS.due("the text stays", made.about(6), 13);
        CHECKS.due("no acts", made.about(4), 0);
        CHECKS.due("no acts", made.undo(), Checks.LATE);
        CHECKS.due("nothing kept", made.again(0), Checks.LATE);
        CHECKS.due("nothing kept", made.again(1), Checks.LATE);
        CHECKS.due("seen stays", made.about(5), 1);
        CHECKS.due("the seed stays", made.seed(0), 77);
        CHECKS.due("no fines", made.about(2), 0);
        CHECKS.due("seat of 0", made.person(0, 3), 0);
        CHECKS.due("seat of 1", made.person(1, 3), 1);
        CHECKS.due("told to 2", made.person(2, 1), 0);
        Checks.rewrite(made, "KP1abR345");
        CHECKS.due("another table", made.table(), 11);
        CHECKS.due("people", made.about(0), 1);
        CHECKS.due("person 1 is gone", made.person(1, 0), Checks.UNKNOWN);
        CHECKS.due("kind", made.person(0, 0), 1);
        CHECKS.due("told", made.person(0, 1), 8);
    }

    @Says({"Promise 5: LATE: a FAULT.", "Terms 4: What is refused changes nothing."})
    static void refusedTableChangesNothing() {
        KnowsBetter made = Checks.table("KP0baR012");
        made.teach(0, 1);
        made.keep(0);
        Checks.rewrite(made, "KP0b");
        CHECKS.due("table() of a fault", made.table(), Checks.LATE);
        CHECKS.due("people", made.about(0), 1);
        CHECKS.due("rules", made.about(1), 1);
        CHECKS.due("acts", made.about(4), 1);
        CHECKS.due("known", made.person(0, 2), 7);
        CHECKS.due("kept", made.again(0), 0);
    }

    @Says("Promise 6: PEOPLE (what = 0), RULES (1), FINES of all (2), FACTS that somebody KNOWS (3: bits), ACTS "
            + "(4), SEEN (5), bytes of THE TEXT (6). BAD.")
    static void about() {
        KnowsBetter made = Checks.table("KP0caP2baP3adR013");
        made.see(0, 1);
        made.see(1, 0);
        made.see(1, 0);
        made.say(0, 0, 1);
        made.teach(1, 5);
        CHECKS.due("about(0)", made.about(0), 3);
        CHECKS.due("about(1)", made.about(1), 1);
        CHECKS.due("about(2)", made.about(2), 12);
        CHECKS.due("about(3)", made.about(3), 1 | 2 | 8 | 16 | 32);
        CHECKS.due("about(4)", made.about(4), 2);
        CHECKS.due("about(5)", made.about(5), 3);
        CHECKS.due("about(6)", made.about(6), 17);
        CHECKS.due("about(-1)", made.about(-1), Checks.BAD);
        CHECKS.due("about(7)", made.about(7), Checks.BAD);
        CHECKS.due("about(least)", made.about(Integer.MIN_VALUE), Checks.BAD);
        CHECKS.due("nobody knows 3 of two alone", Checks.table("KP0baP0caR013").about(3), 3);
    }

    @Says({
        "Promise 7: Of a PERSON its KIND (what = 0), what it was TOLD (1: bits), what it KNOWS (2: bits), its "
            + "SEAT (3), FINES (4). UNKNOWN; BAD.",
        "Terms 1: Pkxy a PERSON of KIND k (0 PLAIN, 1 WOOL, 2 SHY, 3 LICENSED) that was TOLD FACTS by x, y (a "
            + ".. h each: a is 0, b 1, .. h 7; as bits: x of FACTS 0 .. 2, y of 3 .. 5)"})
    static void person() {
        KnowsBetter made = Checks.table("KP0baP1caP2hhP3db");
        int[] told = {1, 2, 63, 3 | 8};
        for (int person = 0; person < 4; person++) {
            CHECKS.due("kind of " + person, made.person(person, 0), person);
            CHECKS.due("told to " + person, made.person(person, 1), told[person]);
            CHECKS.due("known to " + person, made.person(person, 2), told[person]);
            CHECKS.due("seat of " + person, made.person(person, 3), person);
            CHECKS.due("fines of " + person, made.person(person, 4), 0);
            CHECKS.due("what -1 of " + person, made.person(person, -1), Checks.BAD);
            CHECKS.due("what 5 of " + person, made.person(person, 5), Checks.BAD);
        }
        CHECKS.due("person(4, 0)", made.person(4, 0), Checks.UNKNOWN);
        CHECKS.due("person(-1, 0)", made.person(-1, 0), Checks.UNKNOWN);
        CHECKS.due("person(4, 9)", made.person(4, 9), Checks.UNKNOWN);
    }

    @Says({
        "Terms 1: Rijk a RULE: who knows FACTS i and j knows k, too (0 .. 5 each; 4 RULES at most)",
        "Terms 1: One KNOWS what it was TOLD, and what RULES give from that, and so on."})
    static void rulesGoOn() {
        // Told backwards, so that each pass over the rules gives one fact more.
        KnowsBetter made = Checks.table("KP0daR045R034R023R012");
        CHECKS.due("told", made.person(0, 1), 3);
        CHECKS.due("known by four rules", made.person(0, 2), 63);
        CHECKS.due("one fact twice", Checks.table("KP0baR005").person(0, 2), 33);
        CHECKS.due("one of two is not enough", Checks.table("KP0baR015").person(0, 2), 1);
        CHECKS.due("nothing from nothing", Checks.table("KP0aaR000").person(0, 2), 0);
    }

    @Says({
        "Promise 8: FAR. UNKNOWN: both; 0 from itself.",
        "Terms 1: FAR from one to another one: how many SEATS on, one way round or the other, the fewer."})
    static void far() {
        KnowsBetter made = Checks.table("KP0aaP0aaP0aaP0aaP0aa");
        int[] fromNought = {0, 1, 2, 2, 1};
        for (int other = 0; other < 5; other++) {
            CHECKS.due("far(0, " + other + ")", made.far(0, other), fromNought[other]);
            CHECKS.due("far(" + other + ", 0)", made.far(other, 0), fromNought[other]);
        }
        made.change(0, 2);
        CHECKS.due("far(0, 2) changed", made.far(0, 2), 2);
        CHECKS.due("far(0, 1) changed", made.far(0, 1), 1);
        CHECKS.due("far(0, 4) changed", made.far(0, 4), 2);
        CHECKS.due("far(2, 4) changed", made.far(2, 4), 1);
        CHECKS.due("far of two", Checks.table("KP0aaP0aa").far(0, 1), 1);
        CHECKS.due("far over four seats", Checks.table("KP0aaP0aaP0aaP0aa").far(3, 1), 2);
        CHECKS.due("far(0, 5)", made.far(0, 5), Checks.UNKNOWN);
        CHECKS.due("far(5, 0)", made.far(5, 0), Checks.UNKNOWN);
        CHECKS.due("far(-1, -1)", made.far(-1, -1), Checks.UNKNOWN);
    }
}
