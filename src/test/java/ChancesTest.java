/** Promises 24 to 27: rests, deaf, seed, evenings. */
public final class ChancesTest {
    private static final Checks CHECKS = new Checks();
    private static final long MULTIPLIER = 6364136223846793005L, INCREMENT = 1442695040888963407L;

    public static void main(String[] args) throws ReflectiveOperationException {
        CHECKS.run(ChancesTest.class);
        CHECKS.end("ChancesTest");
    }

    @Says({
        "Promise 24: RESTS: how many (what = 0), the first one (1). BAD.",
        "Terms 3: RESTS of two who know: each waits 0 .. 3 breaths; if both wait 3, both pay 6; else who waits "
            + "no longer than the other one speaks up and pays 3, who waits longer pays 1, and each (who speaks up, "
            + "too) 1 more for each breath till somebody speaks up (who wait alike both speak up): pairs in which "
            + "neither pays less by another wait alone: how many; the first one (10 times the one and the other)."})
    static void rests() {
        KnowsBetter made = new KnowsBetter();
        // 0 and 2, 0 and 3, and the other way round.
        CHECKS.due("rests(0)", made.rests(0), 4);
        CHECKS.due("rests(1)", made.rests(1), 2);
        CHECKS.due("rests(-1)", made.rests(-1), Checks.BAD);
        CHECKS.due("rests(2)", made.rests(2), Checks.BAD);
    }

    @Says({
        "Promise 25: DEAF.",
        "Terms 3: DEAF: when a PERSON says a FACT falsely by a VOICE, each of those that HEAR it is deaf by x "
            + "tenths (0 .. 10), by itself: that nobody is left that KNOWS it: a FRACTION."})
    static void deaf() {
        KnowsBetter made = Checks.table("KP0baP0daP1baP2baP0baR013");
        fraction(made, 0, 0, 1, 5, 1, 4);
        fraction(made, 0, 0, 2, 5, 1, 8);
        fraction(made, 0, 1, 2, 4, 2, 5);
        fraction(made, 0, 3, 1, 7, 7, 10);
        fraction(made, 4, 0, 2, 3, 27, 1000);
        fraction(made, 4, 0, 2, 0, 0, 1);
        fraction(made, 4, 0, 2, 10, 1, 1);
        fraction(made, 4, 5, 2, 0, 1, 1);
        fraction(made, 1, 1, 1, 9, 1, 1);
        fraction(Checks.table("KP0aaP0baP0baP0baP0ba"), 0, 0, 2, 9, 6561, 10000);
        fraction(Checks.table("KP0aaP0baP0baP0baP0ba"), 0, 0, 2, 2, 1, 625);
    }

    private static void fraction(KnowsBetter made, int person, int fact, int voice, int x, int upper, int lower) {
        String call = "deaf(" + person + ", " + fact + ", " + voice + ", " + x + ")";
        CHECKS.due(call + " above", made.deaf(person, fact, voice, x, true), upper);
        CHECKS.due(call + " below", made.deaf(person, fact, voice, x, false), lower);
    }

    @Says("Promise 25: UNKNOWN: person, fact; BAD: voice, x.")
    static void deafRefusals() {
        KnowsBetter made = Checks.table("KP0aaP0ba");
        CHECKS.due("person", made.deaf(2, 0, 1, 5, true), Checks.UNKNOWN);
        CHECKS.due("person", made.deaf(-1, 0, 3, 11, true), Checks.UNKNOWN);
        CHECKS.due("fact", made.deaf(0, 6, 1, 5, false), Checks.UNKNOWN);
        CHECKS.due("fact", made.deaf(0, -1, 0, -1, false), Checks.UNKNOWN);
        CHECKS.due("voice", made.deaf(0, 0, 0, 5, true), Checks.BAD);
        CHECKS.due("voice", made.deaf(0, 0, 3, 5, true), Checks.BAD);
        CHECKS.due("x", made.deaf(0, 0, 1, -1, true), Checks.BAD);
        CHECKS.due("x", made.deaf(0, 0, 1, 11, true), Checks.BAD);
        CHECKS.due("x", made.deaf(0, 5, 1, 11, false), Checks.BAD);
    }

    @Says("Promise 26: THE SEED is v: what it was.")
    static void seed() {
        KnowsBetter made = new KnowsBetter();
        CHECKS.due("seed at first", made.seed(Long.MIN_VALUE), 0);
        CHECKS.due("seed", made.seed(-1), Long.MIN_VALUE);
        CHECKS.due("seed", made.seed(7), -1);
        made.seed(0);
        made.evenings(1);
        CHECKS.due("one step from 0", made.seed(0), INCREMENT);
    }

    @Says({
        "Promise 27: EVENINGS. BAD: m.",
        "Terms 3: EVENINGS by THE SEED: m times (1 .. 30) x (THE SEED, a long; 0 at first) becomes x times "
            + "6364136223846793005 and 1442695040888963407 (64 bits, wrapping)"})
    static void eveningsMoveTheSeed() {
        KnowsBetter made = new KnowsBetter();
        made.seed(12345);
        CHECKS.due("m 0", made.evenings(0), Checks.BAD);
        CHECKS.due("m -1", made.evenings(-1), Checks.BAD);
        CHECKS.due("m 31", made.evenings(31), Checks.BAD);
        CHECKS.due("nobody pays", made.evenings(30), 0);
        long x = 12345;
        for (int step = 0; step < 30; step++) {
            x = x * MULTIPLIER + INCREMENT;
        }
        CHECKS.due("thirty steps", made.seed(0), x);
    }

    /** A seed by which the next draw, of 60, is that one. */
    private static long seedOfDraw(int draw) {
        for (long seed = 0; seed < 100000; seed++) {
            if (drawBehind(seed) == draw) {
                return seed;
            }
        }
        throw new IllegalStateException("no seed for " + draw);
    }

    private static int drawBehind(long seed) {
        return (int) ((seed * MULTIPLIER + INCREMENT >>> 33) % 60);
    }

    @Says("Terms 3: what is left of its upper 31 bits by 60: that by 12 (down) is a PERSON, what is left by 12: "
            + "a FACT, and 6 more for a VOICE of 2 (else 1): it is SAID, if there is such a one")
    static void eveningsByOneDraw() {
        String text = "KP0aaP2cbP1aaP0adP3ca";
        for (int draw = 0; draw < 60; draw++) {
            KnowsBetter made = Checks.table(text);
            made.seed(seedOfDraw(draw));
            int more = made.evenings(1);
            made.say(draw / 12, draw % 12 % 6, draw % 12 < 6 ? 1 : 2);
            CHECKS.due("evening of draw " + draw, more, made.about(2));
            KnowsBetter fewer = Checks.table("KP0aaP0hh");
            fewer.seed(seedOfDraw(draw));
            CHECKS.due("two at the table, draw " + draw, fewer.evenings(1), draw < 12 ? 1 : 0);
        }
    }

    @Says(value = "Terms 3: it is SAID, if there is such a one: what FINES are more at last, all together.",
        by = "fourteen on end")
    static void eveningsOneBehindAnother() {
        String text = "KP0caP2haP1aaP0adP3ahR014";
        for (int first = 0; first < 20; first++) {
            KnowsBetter made = Checks.table(text);
            KnowsBetter said = Checks.table(text);
            made.teach(2, 5);
            said.teach(2, 5);
            made.say(0, 2, 1);
            said.say(0, 2, 1);
            int before = said.about(2);
            long x = 1000L * first - 7;
            made.seed(x);
            for (int evening = 0; evening < 14; evening++) {
                int draw = drawBehind(x);
                x = x * MULTIPLIER + INCREMENT;
                said.say(draw / 12, draw % 6, draw % 12 / 6 + 1);
            }
            CHECKS.due("fourteen from " + first, made.evenings(14), said.about(2) - before);
            CHECKS.due("the fines stay", made.about(2), before);
        }
    }

    @Says("Terms 3: (Nothing changes but THE SEED.)")
    static void eveningsChangeNothingElse() {
        KnowsBetter made = Checks.table("KP0hhP0aaP0aaP2hh");
        made.change(0, 1);
        made.evenings(30);
        CHECKS.due("acts", made.about(4), 1);
        CHECKS.due("fines", made.about(2), 0);
        CHECKS.due("told", made.person(1, 1) | made.person(2, 1), 0);
        CHECKS.due("seat", made.person(0, 3), 1);
        CHECKS.due("refused m", made.evenings(31), Checks.BAD);
    }
}
