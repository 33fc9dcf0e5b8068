/** Promises 21 to 23: see, unsee, minds. */
public final class MindsTest {
    private static final Checks CHECKS = new Checks();

    public static void main(String[] args) throws ReflectiveOperationException {
        CHECKS.run(MindsTest.class);
        CHECKS.end("MindsTest");
    }

    @Says({
        "Promise 21: SEEN: how many there are. UNKNOWN: fact; BAD: spoke (0, 1); FULL: 6.",
        "Terms 3: SEEN: that somebody spoke up (1) or did not (0), when a FACT was SAID falsely in its "
            + "hearing: 6 such at most, none at first."})
    static void see() {
        KnowsBetter made = new KnowsBetter();
        CHECKS.due("see(6, 0)", made.see(6, 0), Checks.UNKNOWN);
        CHECKS.due("see(-1, 2)", made.see(-1, 2), Checks.UNKNOWN);
        CHECKS.due("see(0, 2)", made.see(0, 2), Checks.BAD);
        CHECKS.due("see(0, -1)", made.see(0, -1), Checks.BAD);
        CHECKS.due("nothing seen", made.about(5), 0);
        for (int count = 1; count <= 6; count++) {
            CHECKS.due("see(5, 1)", made.see(5, 1), count);
        }
        CHECKS.due("see a seventh", made.see(0, 0), Checks.FULL);
        CHECKS.due("full, but unknown", made.see(6, 0), Checks.UNKNOWN);
        CHECKS.due("full, but bad", made.see(0, 2), Checks.BAD);
        CHECKS.due("six seen", made.about(5), 6);
        CHECKS.due("the seventh counts not", made.minds(2), 0);
    }

    @Says("Promise 22: Nothing is SEEN: how much there was.")
    static void unsee() {
        KnowsBetter made = new KnowsBetter();
        CHECKS.due("unsee nothing", made.unsee(), 0);
        made.see(3, 1);
        made.see(4, 0);
        CHECKS.due("minds", made.minds(0), 16);
        CHECKS.due("unsee", made.unsee(), 2);
        CHECKS.due("nothing seen", made.about(5), 0);
        CHECKS.due("minds again", made.minds(0), 64);
        CHECKS.due("known by all", made.minds(1), 0);
        CHECKS.due("see", made.see(0, 0), 1);
        CHECKS.due("minds then", made.minds(0), 32);
    }

    @Says({
        "Promise 23: MINDS: how many (what = 0), what it KNOWS by all (1), by none (2), as bits; NONE. BAD.",
        "Terms 3: MINDS: sets of FACTS that it may have been TOLD (64 in all), so that it KNOWS those by which "
            + "it spoke up, none of those by which it did not: how many; FACTS (bits) that it KNOWS by all; by none"})
    static void mindsWithoutRules() {
        KnowsBetter made = new KnowsBetter();
        made.see(0, 1);
        made.see(3, 1);
        made.see(5, 0);
        CHECKS.due("how many", made.minds(0), 8);
        CHECKS.due("by all", made.minds(1), 1 | 8);
        CHECKS.due("by none", made.minds(2), 32);
        CHECKS.due("minds(-1)", made.minds(-1), Checks.BAD);
        CHECKS.due("minds(3)", made.minds(3), Checks.BAD);
    }

    @Says(value = "Terms 3: so that it KNOWS those by which it spoke up, none of those by which it did not",
        by = "by RULES, too")
    static void mindsWithRules() {
        KnowsBetter made = Checks.table("KR012R233");
        made.see(2, 0);
        // 0 and 1 not both, and not 2: 3 of 4; 3, 4 and 5 as they like.
        CHECKS.due("how many", made.minds(0), 24);
        CHECKS.due("by all", made.minds(1), 0);
        CHECKS.due("by none", made.minds(2), 4);
        made.see(0, 1);
        CHECKS.due("how many with 0", made.minds(0), 8);
        CHECKS.due("by all with 0", made.minds(1), 1);
        CHECKS.due("by none with 0", made.minds(2), 6);
        KnowsBetter up = Checks.table("KR012R222R024");
        up.see(2, 1);
        // Told 2, or told 0 and 1: 5 of 8; told 0: 4, too.
        CHECKS.due("how many", up.minds(0), 40);
        up.see(4, 0);
        // 2 and 1 as it likes, not 0, not 4.
        CHECKS.due("how many without 4", up.minds(0), 8);
        CHECKS.due("by none", up.minds(2), 1 | 16);
    }

    @Says("Terms 3: NONE (of the latter two): there are none.")
    static void mindsOfNone() {
        KnowsBetter made = Checks.table("KP0hhR001");
        made.see(0, 1);
        made.see(1, 0);
        CHECKS.due("a rule forbids it", made.minds(0), 0);
        CHECKS.due("by all", made.minds(1), Checks.NONE);
        CHECKS.due("by none", made.minds(2), Checks.NONE);
        CHECKS.due("but bad", made.minds(3), Checks.BAD);
        made.unsee();
        made.see(4, 1);
        made.see(4, 0);
        CHECKS.due("both ways", made.minds(0), 0);
    }

    @Says(value = "Terms 3: so that it KNOWS those by which it spoke up", by = "by RULES of THE TABLE, not of THE TEXT")
    static void mindsFollowTheTable() {
        KnowsBetter made = Checks.table("KR012");
        made.see(2, 1);
        CHECKS.due("with the rule", made.minds(0), 40);
        Checks.rewrite(made, "K");
        made.fault();
        CHECKS.due("a text is no table yet", made.minds(0), 40);
        made.table();
        CHECKS.due("without the rule", made.minds(0), 32);
    }
}
