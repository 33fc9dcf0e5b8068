/** The boundaries of promises 21 to 24, and of what "Terms" say of SEEN, MINDS and RESTS. */
public final class MindsEdgesTest {
    private static final Checks CHECKS = new Checks();

    public static void main(String[] args) throws ReflectiveOperationException {
        CHECKS.run(MindsEdgesTest.class);
        CHECKS.end("MindsEdgesTest");
    }

    private static void minds(KnowsBetter made, int count, int byAll, int byNone) {
        CHECKS.due("how many", made.minds(0), count);
        CHECKS.due("by all", made.minds(1), byAll);
        CHECKS.due("by none", made.minds(2), byNone);
    }

    // ---- promise 21

    @Says("Promise 21: UNKNOWN: fact; BAD: spoke (0, 1)")
    static void seeRefusals() {
        KnowsBetter made = new KnowsBetter();
        CHECKS.due("fact -1", made.see(-1, 0), -1);
        CHECKS.due("fact 6", made.see(6, 0), -1);
        CHECKS.due("fact 32", made.see(32, 0), -1);
        CHECKS.due("spoke -1", made.see(0, -1), -2);
        CHECKS.due("spoke 2", made.see(0, 2), -2);
        CHECKS.due("unknown ahead of bad", made.see(6, 2), -1);
        CHECKS.due("unknown ahead of bad", made.see(-1, -1), -1);
        CHECKS.due("nothing is seen", made.about(5), 0);
        CHECKS.due("fact 0, spoke 0", made.see(0, 0), 1);
        CHECKS.due("fact 5, spoke 1", made.see(5, 1), 2);
        minds(made, 16, 32, 1);
    }

    @Says({"Promise 21: SEEN: how many there are.", "Promise 21: FULL: 6."})
    static void sixSeenAndOneMore() {
        for (int spoke = 0; spoke <= 1; spoke++) {
            KnowsBetter made = new KnowsBetter();
            for (int fact = 0; fact < 5; fact++) {
                CHECKS.due("see", made.see(fact, spoke), fact + 1);
            }
            CHECKS.due("two minds", made.minds(0), 2);
            CHECKS.due("the sixth", made.see(0, spoke), 6);
            CHECKS.due("the seventh", made.see(5, spoke), -4);
            CHECKS.due("seen", made.about(5), 6);
            CHECKS.due("still two minds", made.minds(0), 2);
        }
    }

    @Says(value = "Terms 4: Of several what is told first.", by = "see: UNKNOWN, BAD ahead of FULL")
    static void seeRefusalsWhenFull() {
        KnowsBetter made = new KnowsBetter();
        for (int i = 0; i < 6; i++) {
            made.see(1, 1);
        }
        CHECKS.due("unknown and bad and full", made.see(6, 2), -1);
        CHECKS.due("unknown and full", made.see(-1, 1), -1);
        CHECKS.due("bad and full", made.see(1, 2), -2);
        CHECKS.due("bad and full", made.see(1, -1), -2);
        CHECKS.due("full", made.see(1, 0), -4);
        CHECKS.due("full", made.see(1, 1), -4);
    }

    @Says(value = "Terms 3: 6 such at most, none at first", by = "of like ones each counts")
    static void likeOnesCountEach() {
        KnowsBetter made = new KnowsBetter();
        CHECKS.due("none at first", made.about(5), 0);
        for (int i = 1; i <= 6; i++) {
            CHECKS.due("the same again", made.see(3, 1), i);
        }
        CHECKS.due("a seventh time", made.see(3, 1), -4);
        minds(made, 32, 8, 0);
    }

    // ---- promise 22

    @Says("Promise 22: Nothing is SEEN: how much there was.")
    static void unseeNoneToSix() {
        KnowsBetter made = new KnowsBetter();
        for (int count = 0; count <= 6; count++) {
            for (int i = 0; i < count; i++) {
                made.see(i, (i + count) % 2);
            }
            CHECKS.due("unsee " + count, made.unsee(), count);
            CHECKS.due("nothing is left", made.about(5), 0);
            minds(made, 64, 0, 0);
        }
        CHECKS.due("unsee nothing", made.unsee(), 0);
        CHECKS.due("see", made.see(0, 0), 1);
    }

    // ---- promise 23

    @Says("Promise 23: MINDS: how many (what = 0), what it KNOWS by all (1), by none (2), as bits; NONE. BAD.")
    static void mindsWhatFrom0To2() {
        KnowsBetter made = new KnowsBetter();
        made.see(2, 1);
        CHECKS.due("what -1", made.minds(-1), -2);
        CHECKS.due("what 0", made.minds(0), 32);
        CHECKS.due("what 2", made.minds(2), 0);
        CHECKS.due("what 3", made.minds(3), -2);
        CHECKS.due("the most", made.minds(Integer.MAX_VALUE), -2);
        CHECKS.due("the least", made.minds(Integer.MIN_VALUE), -2);
    }

    @Says(value = "Terms 3: sets of FACTS that it may have been TOLD (64 in all)", by = "nothing SEEN")
    static void mindsOfNothingSeen() {
        minds(new KnowsBetter(), 64, 0, 0);
        minds(Checks.table("KR012R233R445R550"), 64, 0, 0);
        minds(Checks.table("KP0hh"), 64, 0, 0);
    }

    @Says(value = "Terms 3: so that it KNOWS those by which it spoke up, none of those by which it did not",
        by = "all six")
    static void mindsOfAllFacts() {
        for (int set = 0; set < 64; set++) {
            KnowsBetter made = new KnowsBetter();
            for (int fact = 0; fact < 6; fact++) {
                made.see(fact, set >> fact & 1);
            }
            minds(made, 1, set, 63 & ~set);
        }
    }

    @Says("Terms 3: NONE (of the latter two): there are none.")
    static void mindsOfNone() {
        KnowsBetter made = new KnowsBetter();
        made.see(5, 1);
        minds(made, 32, 32, 0);
        made.see(5, 0);
        minds(made, 0, -9, -9);
        KnowsBetter rule = Checks.table("KR012R225");
        rule.see(0, 1);
        rule.see(1, 1);
        minds(rule, 16, 39, 0);
        rule.see(5, 0);
        minds(rule, 0, -9, -9);
        CHECKS.due("bad all the same", rule.minds(3), -2);
        CHECKS.due("unsee", rule.unsee(), 3);
        minds(rule, 64, 0, 0);
    }

    @Says(value = "Terms 3: FACTS (bits) that it KNOWS by all; by none", by = "by RULES, too")
    static void mindsByRules() {
        KnowsBetter all = Checks.table("KR001R112R223R334");
        all.see(0, 1);
        // Told 0 and anything else: all but 5 are known by it.
        minds(all, 32, 31, 0);
        all.unsee();
        all.see(4, 0);
        // Told of 0 .. 4 nothing.
        minds(all, 2, 0, 31);
        all.unsee();
        all.see(4, 1);
        minds(all, 62, 16, 0);
        all.see(3, 0);
        minds(all, 2, 16, 15);
    }

    // ---- promise 24

    @Says("Promise 24: RESTS: how many (what = 0), the first one (1). BAD.")
    static void restsWhat0And1() {
        KnowsBetter made = new KnowsBetter();
        CHECKS.due("what -1", made.rests(-1), -2);
        CHECKS.due("what 0", made.rests(0), restsByCounting(false));
        CHECKS.due("what 1", made.rests(1), restsByCounting(true));
        CHECKS.due("what 2", made.rests(2), -2);
        CHECKS.due("the most", made.rests(Integer.MAX_VALUE), -2);
        CHECKS.due("the least", made.rests(Integer.MIN_VALUE), -2);
    }

    @Says("Terms 3: RESTS of two who know: each waits 0 .. 3 breaths")
    static void restsAreTheSameAtEachTable() {
        String[] tables = {"K", "KP2hhP2hh", "KP0hhP3hhR012"};
        for (String table : tables) {
            KnowsBetter made = Checks.table(table);
            CHECKS.due("how many at " + table, made.rests(0), 4);
            CHECKS.due("the first one at " + table, made.rests(1), 2);
        }
    }

    /** What the one pays; the row is its wait, the column the other one's: 3 or 1, and the breaths. */
    private static final int[][] PAYS = {{3, 3, 3, 3}, {1, 4, 4, 4}, {1, 2, 5, 5}, {1, 2, 3, 6}};

    private static int restsByCounting(boolean first) {
        int count = 0;
        int firstOne = -1;
        for (int pair = 0; pair < 16; pair++) {
            int one = pair / 4;
            int other = pair % 4;
            boolean rests = true;
            for (int wait = 0; wait < 4; wait++) {
                rests &= PAYS[wait][other] >= PAYS[one][other] && PAYS[wait][one] >= PAYS[other][one];
            }
            if (rests) {
                count++;
                firstOne = firstOne < 0 ? 10 * one + other : firstOne;
            }
        }
        return first ? firstOne : count;
    }
}
