import java.math.BigInteger;

/** The boundaries of promises 25 to 27, and of what "Terms" say of DEAF, EVENINGS and THE SEED. */
public final class ChancesEdgesTest {
    private static final Checks CHECKS = new Checks();
    private static final BigInteger MULTIPLIER = new BigInteger("6364136223846793005");
    private static final BigInteger INCREMENT = new BigInteger("1442695040888963407");
    private static final BigInteger WRAP = BigInteger.ONE.shiftLeft(64);

    public static void main(String[] args) throws ReflectiveOperationException {
        CHECKS.run(ChancesEdgesTest.class);
        CHECKS.end("ChancesEdgesTest");
    }

    private static long next(long seed) {
        return BigInteger.valueOf(seed).multiply(MULTIPLIER).add(INCREMENT).mod(WRAP).longValue();
    }

    /** THE SEED by which the next evening's x has these upper 31 bits and these lower 33 ones. */
    private static long seedBefore(long upper, long lower) {
        BigInteger x = BigInteger.valueOf(upper).shiftLeft(33).add(BigInteger.valueOf(lower));
        return x.subtract(INCREMENT).multiply(MULTIPLIER.modInverse(WRAP)).mod(WRAP).longValue();
    }

    // ---- promise 25

    @Says("Promise 25: UNKNOWN: person, fact; BAD: voice, x.")
    static void deafRefusals() {
        KnowsBetter made = Checks.table("KP0hhP0hhP0hh");
        boolean[] both = {true, false};
        for (boolean upper : both) {
            CHECKS.due("person -1", made.deaf(-1, 0, 1, 10, upper), -1);
            CHECKS.due("person 0", made.deaf(0, 0, 1, 10, upper), 1);
            CHECKS.due("person 2", made.deaf(2, 0, 1, 10, upper), 1);
            CHECKS.due("person 3", made.deaf(3, 0, 1, 10, upper), -1);
            CHECKS.due("fact -1", made.deaf(0, -1, 1, 10, upper), -1);
            CHECKS.due("fact 5", made.deaf(0, 5, 1, 10, upper), 1);
            CHECKS.due("fact 6", made.deaf(0, 6, 1, 10, upper), -1);
            CHECKS.due("voice 0", made.deaf(0, 0, 0, 10, upper), -2);
            CHECKS.due("voice 2", made.deaf(0, 0, 2, 10, upper), 1);
            CHECKS.due("voice 3", made.deaf(0, 0, 3, 10, upper), -2);
            CHECKS.due("x -1", made.deaf(0, 0, 1, -1, upper), -2);
            CHECKS.due("x 11", made.deaf(0, 0, 1, 11, upper), -2);
            CHECKS.due("unknown ahead of bad", made.deaf(0, 6, 3, 11, upper), -1);
            CHECKS.due("unknown ahead of bad", made.deaf(3, 0, 0, -1, upper), -1);
            CHECKS.due("nobody", new KnowsBetter().deaf(0, 0, 1, 5, upper), -1);
        }
        CHECKS.due("x 0", made.deaf(0, 0, 1, 0, true), 0);
    }

    @Says(value = "Terms 3: is deaf by x tenths (0 .. 10), by itself", by = "x at each tenth, none to four that KNOW")
    static void deafAtEachTenth() {
        for (int knowing = 0; knowing <= 4; knowing++) {
            KnowsBetter made = Checks.table("KP0ba" + "P0ba".repeat(knowing) + "P0aa".repeat(4 - knowing));
            for (int x = 0; x <= 10; x++) {
                BigInteger above = BigInteger.valueOf(x).pow(knowing);
                BigInteger below = BigInteger.TEN.pow(knowing);
                BigInteger divisor = above.gcd(below);
                String call = x + " tenths of " + knowing;
                CHECKS.due(call + ", above", made.deaf(0, 0, 2, x, true), above.divide(divisor).intValue());
                CHECKS.due(call + ", below", made.deaf(0, 0, 2, x, false), below.divide(divisor).intValue());
            }
        }
    }

    @Says(value = "Terms 3: that nobody is left that KNOWS it: a FRACTION.", by = "sure, never, nobody there")
    static void deafSureAndNever() {
        KnowsBetter made = Checks.table("KP0aaP0hh");
        CHECKS.due("all are deaf, above", made.deaf(0, 0, 1, 10, true), 1);
        CHECKS.due("all are deaf, below", made.deaf(0, 0, 1, 10, false), 1);
        CHECKS.due("nobody is deaf, above", made.deaf(0, 0, 1, 0, true), 0);
        CHECKS.due("nobody is deaf, below", made.deaf(0, 0, 1, 0, false), 1);
        CHECKS.due("nobody is deaf nor knows, above", made.deaf(1, 0, 1, 0, true), 1);
        CHECKS.due("nobody is deaf nor knows, below", made.deaf(1, 0, 1, 0, false), 1);
        KnowsBetter alone = Checks.table("KP0hh");
        CHECKS.due("one alone, above", alone.deaf(0, 0, 2, 0, true), 1);
        CHECKS.due("one alone, below", alone.deaf(0, 0, 2, 7, false), 1);
    }

    @Says(value = "Terms 3: each of those that HEAR it", by = "not who is too far off; who is SHY, too")
    static void deafOfSuchAsHear() {
        KnowsBetter made = Checks.table("KP0aaP2baP0baP1baP0aa");
        CHECKS.due("voice 1: one knows", made.deaf(0, 0, 1, 1, false), 10);
        CHECKS.due("voice 2: two, wool hears not", made.deaf(0, 0, 2, 1, false), 100);
        CHECKS.due("from 4, voice 2: three", made.deaf(4, 0, 2, 1, false), 1000);
        KnowsBetter rule = Checks.table("KP0aaP0daP0baP0caP0aaR015");
        CHECKS.due("by a rule: one", rule.deaf(0, 5, 2, 3, false), 10);
    }

    // ---- promise 26

    @Says("Promise 26: THE SEED is v: what it was.")
    static void seedOfEachEnd() {
        long[] seeds = {0, -1, 1, Long.MAX_VALUE, Long.MIN_VALUE, 1L << 32, -1L << 32, 0xffffffffL, 1L << 31};
        KnowsBetter made = new KnowsBetter();
        long was = 0;
        for (long seed : seeds) {
            CHECKS.due("seed(" + seed + ")", made.seed(seed), was);
            was = seed;
        }
        CHECKS.due("the last one", made.seed(0), was);
    }

    @Says("Terms 3: THE SEED, a long; 0 at first")
    static void seedIs0AtFirst() {
        CHECKS.due("seed", new KnowsBetter().seed(5), 0);
        KnowsBetter made = Checks.table("KP0aa");
        made.evenings(1);
        CHECKS.due("one evening from 0", made.seed(0), 1442695040888963407L);
    }

    @Says("Terms 3: x (THE SEED, a long; 0 at first) becomes x times 6364136223846793005 and 1442695040888963407 "
            + "(64 bits, wrapping)")
    static void seedWraps() {
        long[] seeds = {1, -1, Long.MIN_VALUE, Long.MAX_VALUE};
        long[] due = {7806831264735756412L, -4921441182957829598L, -7780676995965812401L, 4301930853896946210L};
        KnowsBetter made = new KnowsBetter();
        for (int i = 0; i < seeds.length; i++) {
            made.seed(seeds[i]);
            made.evenings(1);
            CHECKS.due("behind " + seeds[i], made.seed(0), due[i]);
            CHECKS.due("counted otherwise", next(seeds[i]), due[i]);
        }
        for (int bit = 0; bit < 64; bit++) {
            made.seed(1L << bit);
            made.evenings(1);
            CHECKS.due("behind bit " + bit, made.seed(0), next(1L << bit));
        }
    }

    // ---- promise 27

    @Says("Promise 27: EVENINGS. BAD: m.")
    static void eveningsFrom1To30() {
        KnowsBetter made = new KnowsBetter();
        int[] bad = {0, 31, -1, Integer.MAX_VALUE, Integer.MIN_VALUE};
        for (int m : bad) {
            made.seed(99);
            CHECKS.due("evenings(" + m + ")", made.evenings(m), -2);
            CHECKS.due("the seed stays", made.seed(99), 99);
        }
        for (int m = 1; m <= 30; m++) {
            made.seed(99);
            CHECKS.due("evenings(" + m + ")", made.evenings(m), 0);
            long due = 99;
            for (int times = 0; times < m; times++) {
                due = next(due);
            }
            CHECKS.due("the seed " + m + " times on", made.seed(0), due);
        }
    }

    /** The one that says it alone knows nothing, so that a fine of 1 tells that it was heard and put right. */
    private static int fines(String table, long upper, long lower) {
        KnowsBetter made = Checks.table(table);
        made.seed(seedBefore(upper, lower));
        return made.evenings(1);
    }

    @Says("Terms 3: what is left of its upper 31 bits by 60")
    static void upper31Bits() {
        long most = (1L << 31) - 1;
        long ones = (1L << 33) - 1;
        // Left by 60: 7, so person 0, fact 1, voice 2.
        String far = "KP0aaP0aaP0caP0aaP0aa";
        CHECKS.due("all bits", fines(far, most, ones), 1);
        CHECKS.due("all upper bits", fines(far, most, 0), 1);
        CHECKS.due("7", fines(far, 7, 0), 1);
        CHECKS.due("7, all lower bits", fines(far, 7, ones), 1);
        CHECKS.due("6, all lower bits", fines(far, 6, ones), 0);
        CHECKS.due("8", fines(far, 8, 0), 0);
        CHECKS.due("67", fines(far, 67, 0), 1);
        CHECKS.due("one less than all", fines(far, most - 1, ones), 0);
        // The highest bit alone, 1073741824: 4 is left, so person 0, fact 4, voice 1.
        CHECKS.due("the highest bit alone", fines("KP0aaP0ac", 1L << 30, 0), 1);
        CHECKS.due("not another fact", fines("KP0aaP0hf", 1L << 30, 0), 0);
    }

    @Says("Terms 3: that by 12 (down) is a PERSON, what is left by 12: a FACT, and 6 more for a VOICE of 2 (else 1)")
    static void eachDrawOfSixty() {
        for (int draw = 0; draw < 60; draw++) {
            int person = draw / 12;
            int fact = draw % 6;
            boolean loud = draw % 12 >= 6;
            String knows = fact < 3 ? "P0" + (char) ('a' + (1 << fact)) + "a" : "P0a" + (char) ('a' + (1 << fact - 3));
            String others = fact < 3 ? "P0" + (char) ('h' - (1 << fact)) + "h" : "P0h" + (char) ('h' - (1 << fact - 3));
            for (int from = 0; from < 5; from++) {
                int steps = (from - person + 5) % 5;
                int off = Math.min(steps, 5 - steps);
                boolean heard = off == 1 || off == 2 && loud;
                String call = "draw " + draw + ", " + from;
                CHECKS.due(call + " knows it", fines(oneOfFive(from, knows, "P0aa"), draw, 5), heard ? 1 : 0);
                CHECKS.due(call + " knows it not", fines(oneOfFive(from, others, others), draw, 5), 0);
            }
        }
    }

    private static String oneOfFive(int one, String part, String others) {
        return "K" + others.repeat(one) + part + others.repeat(4 - one);
    }

    @Says("Terms 3: it is SAID, if there is such a one")
    static void drawOfNobody() {
        for (int people = 0; people <= 5; people++) {
            for (int draw = 0; draw < 60; draw++) {
                KnowsBetter made = Checks.table("K" + "P0hh".repeat(people));
                made.seed(seedBefore(draw, 0));
                boolean there = draw / 12 < people && people > 1;
                CHECKS.due("draw " + draw + " of " + people, made.evenings(1), there ? 1 : 0);
                CHECKS.due("the seed moves all the same", made.seed(0), (long) draw << 33);
            }
        }
    }

    @Says("Terms 3: what FINES are more at last, all together.")
    static void moreFinesThanBefore() {
        KnowsBetter made = Checks.table("KP0aaP2ba");
        for (int times = 0; times < 5; times++) {
            made.say(0, 0, 1);
        }
        CHECKS.due("fines ahead", made.about(2), 60);
        made.seed(seedBefore(0, 0));
        CHECKS.due("one evening of guilt", made.evenings(1), 12);
        made.seed(seedBefore(1, 0));
        CHECKS.due("one evening of nothing", made.evenings(1), 0);
        CHECKS.due("fines stay", made.about(2), 60);
        CHECKS.due("licensed, put right", fines("KP3aaP0ba", 0, 0), 0);
        CHECKS.due("two shy ones, 6 each", fines("KP0aaP2baP2ba", 0, 0), 12);
    }

    @Says(value = "Terms 3: EVENINGS by THE SEED: m times (1 .. 30)", by = "each evening goes on from those ahead")
    static void eveningsGoOnFromOneAnother() {
        KnowsBetter made = Checks.table("KP0baP0aaP0aaP0aaP0aa");
        KnowsBetter said = Checks.table("KP0baP0aaP0aaP0aaP0aa");
        long x = 0;
        int put = 0;
        for (int evening = 1; evening <= 30; evening++) {
            x = next(x);
            int draw = (int) ((x >>> 33) % 60);
            put += said.say(draw / 12, draw % 6, draw % 12 < 6 ? 1 : 2) >= 0 ? 1 : 0;
            made.seed(0);
            CHECKS.due("evenings(" + evening + ")", made.evenings(evening), put);
        }
        CHECKS.due("some were put right", put > 0 ? 1 : 0, 1);
        CHECKS.due("nobody was told in truth", made.about(3), 1);
    }

    @Says("Terms 3: (Nothing changes but THE SEED.)")
    static void nothingChangesButTheSeed() {
        KnowsBetter made = Checks.table("KP0hhP0aaP2hhP0aaP2hh");
        made.change(0, 4);
        made.keep(1);
        made.see(3, 0);
        made.evenings(30);
        CHECKS.due("fines", made.about(2), 0);
        CHECKS.due("acts", made.about(4), 1);
        CHECKS.due("seen", made.about(5), 1);
        CHECKS.due("told", made.person(1, 1) + made.person(3, 1), 0);
        CHECKS.due("seat", made.person(0, 3), 4);
        CHECKS.due("the other slot", made.again(0), -3);
        CHECKS.due("undo()", made.undo(), 0);
        CHECKS.due("seat", made.person(0, 3), 0);
        CHECKS.due("the slot", made.again(1), 0);
        CHECKS.due("seat", made.person(0, 3), 4);
    }
}
