/** Promises 17 to 20: keepFrom, learn, judge, share. */
public final class KnowingTest {
    private static final Checks CHECKS = new Checks();

    public static void main(String[] args) throws ReflectiveOperationException {
        CHECKS.run(KnowingTest.class);
        CHECKS.end("KnowingTest");
    }

    @Says({
        "Promise 17: KEEP, as bits. UNKNOWN: person, fact.",
        "Terms 2: KEEP a PERSON from a FACT: the fewest FACTS it was TOLD (bits; of like ones the least) by "
            + "which, FORGOT, it does not KNOW it."})
    static void keepFrom() {
        KnowsBetter made = Checks.table("KP0daP0haP0dbP0aaP0dfR012R343R232R034");
        CHECKS.due("of 0 and 1 the least", made.keepFrom(0, 2), 1);
        CHECKS.due("told it, too", made.keepFrom(1, 2), 1 | 4);
        CHECKS.due("one for two rules", made.keepFrom(2, 4), 1);
        CHECKS.due("not known", made.keepFrom(3, 2), 0);
        CHECKS.due("not known, told others", made.keepFrom(0, 5), 0);
        CHECKS.due("told alone", made.keepFrom(0, 0), 1);
        CHECKS.due("fewest ahead of least", Checks.table("KP0ddR034R134R352").keepFrom(0, 4), 16 | 8);
        CHECKS.due("one higher instead of two lower", Checks.table("KP0dbR034R134").keepFrom(0, 4), 8);
        CHECKS.due("nothing is changed", made.person(1, 1), 7);
        CHECKS.due("no act", made.about(4), 0);
        CHECKS.due("person", made.keepFrom(5, 0), Checks.UNKNOWN);
        CHECKS.due("person", made.keepFrom(-1, 0), Checks.UNKNOWN);
        CHECKS.due("fact", made.keepFrom(0, 6), Checks.UNKNOWN);
        CHECKS.due("fact", made.keepFrom(0, -1), Checks.UNKNOWN);
    }

    @Says({
        "Promise 18: LEARN, as bits; NONE. UNKNOWN: person, fact.",
        "Terms 2: LEARN for a PERSON and a FACT: the fewest FACTS (bits, of like ones the least, not that FACT "
            + "itself) by which, TAUGHT, it KNOWS it; 0, if it does; NONE."})
    static void learn() {
        KnowsBetter made = Checks.table("KP0aaP0baP0daP0acR012R342R233R005");
        CHECKS.due("two of four, the least", made.learn(0, 2), 3);
        CHECKS.due("one to what it has", made.learn(1, 2), 2);
        CHECKS.due("known already", made.learn(2, 2), 0);
        CHECKS.due("the other rule", made.learn(3, 2), 8);
        CHECKS.due("one alone", made.learn(0, 5), 1);
        CHECKS.due("only by itself", made.learn(0, 3), Checks.NONE);
        CHECKS.due("no rule gives it", made.learn(0, 0), Checks.NONE);
        CHECKS.due("what it has counts", made.learn(1, 5), 0);
        CHECKS.due("fewest ahead of least", Checks.table("KP0aaR012R445R452").learn(0, 2), 16);
        CHECKS.due("nothing is changed", made.person(0, 1), 0);
        CHECKS.due("no act", made.about(4), 0);
        CHECKS.due("person", made.learn(4, 0), Checks.UNKNOWN);
        CHECKS.due("person", made.learn(-1, 0), Checks.UNKNOWN);
        CHECKS.due("fact", made.learn(0, 6), Checks.UNKNOWN);
        CHECKS.due("fact", made.learn(0, -1), Checks.UNKNOWN);
    }

    @Says({
        "Promise 19: JUDGED; NONE.",
        "Terms 2: JUDGED: n things (1 .. 3), told as three figures each, the first thing's the highest of row "
            + "(a PERSON and 1, a FACT and 1, a VOICE: SAID, and somebody puts it right): the place (from 0) of the "
            + "first that can not be (there is no such PERSON, FACT, VOICE; nobody puts it right); NONE: none"})
    static void judge() {
        KnowsBetter made = Checks.table("KP0baP0aaP2caP0aa");
        CHECKS.due("put right", made.judge(1, 211), Checks.NONE);
        CHECKS.due("nobody knows", made.judge(1, 231), 0);
        CHECKS.due("all are shy", made.judge(1, 221), 0);
        CHECKS.due("who knows is too far", made.judge(1, 311), 0);
        CHECKS.due("but hears a loud voice", made.judge(1, 312), Checks.NONE);
        CHECKS.due("no such person", made.judge(1, 511), 0);
        CHECKS.due("no such person", made.judge(1, 11), 0);
        CHECKS.due("no such fact", made.judge(1, 201), 0);
        CHECKS.due("no such fact", made.judge(1, 271), 0);
        CHECKS.due("no such voice", made.judge(1, 210), 0);
        CHECKS.due("no such voice", made.judge(1, 213), 0);
        CHECKS.due("the second one", made.judge(2, 211213), 1);
        CHECKS.due("the third one", made.judge(3, 211211999), 2);
        CHECKS.due("the first one of three", made.judge(3, 211211), 0);
        CHECKS.due("no fines", made.about(2), 0);
        CHECKS.due("no acts", made.about(4), 0);
        CHECKS.due("nobody is told", made.person(2, 1), 2);
    }

    @Says("Terms 2: NONE: none (each is as if those ahead had been SAID).")
    static void judgeOneBehindAnother() {
        KnowsBetter made = Checks.table("KP0baP0aaP0aaP0aaP0aa");
        CHECKS.due("who was told puts right", made.judge(3, 211411111), Checks.NONE);
        CHECKS.due("not yet told", made.judge(3, 211111411), 1);
        CHECKS.due("first told, then put right", made.judge(2, 212311), Checks.NONE);
        CHECKS.due("not told before", made.judge(1, 311), 0);
        CHECKS.due("judged anew each time", made.judge(2, 311212), 0);
        KnowsBetter rule = Checks.table("KP0baP0caP0aaR012");
        CHECKS.due("a rule gives it, then", rule.judge(2, 311331), Checks.NONE);
        CHECKS.due("nobody knows it, first", rule.judge(1, 331), 0);
    }

    @Says("Promise 19: BAD: n, row (0 or more, 3 n figures at most).")
    static void judgeRefusals() {
        KnowsBetter made = Checks.table("KP0baP0aa");
        CHECKS.due("n 0", made.judge(0, 0), Checks.BAD);
        CHECKS.due("n 4", made.judge(4, 0), Checks.BAD);
        CHECKS.due("n -1", made.judge(-1, 211), Checks.BAD);
        CHECKS.due("row -1", made.judge(1, -1), Checks.BAD);
        CHECKS.due("row 0", made.judge(1, 0), 0);
        CHECKS.due("four figures", made.judge(1, 1000), Checks.BAD);
        CHECKS.due("three figures", made.judge(1, 999), 0);
        CHECKS.due("seven figures", made.judge(2, 1000000), Checks.BAD);
        CHECKS.due("six figures", made.judge(2, 999999), 0);
        CHECKS.due("ten figures", made.judge(3, 1000000000), Checks.BAD);
        CHECKS.due("nine figures", made.judge(3, 999999999), 0);
        CHECKS.due("the most", made.judge(3, Integer.MAX_VALUE), Checks.BAD);
        CHECKS.due("the least", made.judge(3, Integer.MIN_VALUE), Checks.BAD);
        CHECKS.due("nobody", new KnowsBetter().judge(1, 111), 0);
    }

    @Says({
        "Promise 20: SHARE. UNKNOWN.",
        "Terms 2: SHARE of a PERSON: if PEOPLE come one by one, in each order as likely, and tell each other "
            + "all that they were TOLD: by how many in the mean FACTS that they KNOW together (by RULES, from all "
            + "that they were TOLD) are more when it has come than they were: a FRACTION."})
    static void share() {
        KnowsBetter one = Checks.table("KP0da");
        fraction(one, 0, 2, 1);
        // Both know fact 0, one knows fact 1 alone, too.
        KnowsBetter two = Checks.table("KP0baP0da");
        fraction(two, 0, 1, 2);
        fraction(two, 1, 3, 2);
        KnowsBetter three = Checks.table("KP0baP0baP0ba");
        fraction(three, 2, 1, 3);
        fraction(Checks.table("KP0aaP0hh"), 0, 0, 1);
        KnowsBetter five = Checks.table("KP0baP0baP0baP0baP0ba");
        fraction(five, 4, 1, 5);
        CHECKS.due("person", two.share(2, true), Checks.UNKNOWN);
        CHECKS.due("person", two.share(-1, false), Checks.UNKNOWN);
    }

    @Says("Terms 2: FACTS that they KNOW together (by RULES, from all that they were TOLD) are more when it has "
            + "come than they were")
    static void shareByRules() {
        // Either alone knows one fact; who comes second brings its own and the rule's.
        KnowsBetter two = Checks.table("KP0baP0caR012");
        fraction(two, 0, 3, 2);
        fraction(two, 1, 3, 2);
        // Alone each knows 1, 0 and 1 know 3 together, else two know 2; all of them 5.
        KnowsBetter three = Checks.table("KP0baP0caP0abR014R435");
        fraction(three, 0, 11, 6);
        fraction(three, 2, 8, 6);
    }

    private static void fraction(KnowsBetter made, int person, int upper, int lower) {
        int divisor = divisor(upper, lower);
        CHECKS.due("upper of " + person, made.share(person, true), upper / divisor);
        CHECKS.due("lower of " + person, made.share(person, false), lower / divisor);
    }

    private static int divisor(int a, int b) {
        return b == 0 ? a : divisor(b, a % b);
    }
}
