/** The boundaries of promises 18 to 20, and of what "Terms" say of LEARN, JUDGED and SHARE. */
public final class KnowingEdgesTest {
    private static final Checks CHECKS = new Checks();
    private static final String FIVE_THAT_KNOW_ALL = "KP0hhP0hhP0hhP0hhP0hh";

    public static void main(String[] args) throws ReflectiveOperationException {
        CHECKS.run(KnowingEdgesTest.class);
        CHECKS.end("KnowingEdgesTest");
    }

    // ---- promise 18

    @Says("Promise 18: LEARN, as bits; NONE. UNKNOWN: person, fact.")
    static void learnRefusals() {
        KnowsBetter made = Checks.table("KP0hhP0aaP0hh");
        CHECKS.due("person -1", made.learn(-1, 0), -1);
        CHECKS.due("person 0", made.learn(0, 0), 0);
        CHECKS.due("person 2", made.learn(2, 5), 0);
        CHECKS.due("person 3", made.learn(3, 0), -1);
        CHECKS.due("fact -1", made.learn(1, -1), -1);
        CHECKS.due("fact 0", made.learn(1, 0), -9);
        CHECKS.due("fact 5", made.learn(1, 5), -9);
        CHECKS.due("fact 6", made.learn(1, 6), -1);
        CHECKS.due("fact 32", made.learn(1, 32), -1);
        CHECKS.due("nobody", new KnowsBetter().learn(0, 0), -1);
    }

    @Says("Terms 2: not that FACT itself) by which, TAUGHT, it KNOWS it; 0, if it does; NONE.")
    static void learnNone() {
        CHECKS.due("no rules", Checks.table("KP0aa").learn(0, 0), -9);
        CHECKS.due("a rule from itself", Checks.table("KP0aaR000").learn(0, 0), -9);
        CHECKS.due("a rule from itself and another", Checks.table("KP0gaR010R020").learn(0, 0), -9);
        CHECKS.due("rules for others", Checks.table("KP0aaR012R345").learn(0, 0), -9);
        CHECKS.due("all the others", Checks.table("KP0ghR010R020").learn(0, 0), -9);
    }

    @Says("Terms 2: it KNOWS it; 0, if it does")
    static void learnWhatItKnows() {
        KnowsBetter made = Checks.table("KP0daR012R023R034R045");
        for (int fact = 0; fact < 6; fact++) {
            CHECKS.due("fact " + fact, made.learn(0, fact), 0);
        }
        made.forget(0, 1);
        CHECKS.due("told alone", made.learn(0, 0), 0);
        CHECKS.due("not any more, and no rule gives it", made.learn(0, 1), -9);
    }

    @Says(value = "Terms 2: LEARN for a PERSON and a FACT: the fewest FACTS", by = "one, two")
    static void learnOneAndTwo() {
        CHECKS.due("one", Checks.table("KP0aaR550").learn(0, 0), 32);
        CHECKS.due("one to the other", Checks.table("KP0caR150").learn(0, 0), 32);
        CHECKS.due("two", Checks.table("KP0aaR450").learn(0, 0), 48);
        CHECKS.due("one by two rules", Checks.table("KP0baR012R223R034").learn(0, 4), 2);
        CHECKS.due("the last one of a chain", Checks.table("KP0aaR012R023R034R045").learn(0, 5), 3);
    }

    @Says("Terms 2: (bits, of like ones the least, not that FACT itself)")
    static void learnTheLeastOfLikeOnes() {
        CHECKS.due("of three", Checks.table("KP0aaR005R115R225").learn(0, 5), 1);
        CHECKS.due("told the other way round", Checks.table("KP0aaR335R225R115").learn(0, 5), 2);
        CHECKS.due("of two pairs", Checks.table("KP0aaR345R125").learn(0, 5), 6);
        CHECKS.due("one ahead of two that are less", Checks.table("KP0aaR015R445").learn(0, 5), 16);
    }

    // ---- promise 19

    @Says("Promise 19: BAD: n, row (0 or more, 3 n figures at most).")
    static void judgeRefusals() {
        KnowsBetter made = Checks.table(FIVE_THAT_KNOW_ALL);
        CHECKS.due("n 0", made.judge(0, 0), -2);
        CHECKS.due("n 1", made.judge(1, 111), -9);
        CHECKS.due("n 3", made.judge(3, 111111111), -9);
        CHECKS.due("n 4", made.judge(4, 111111111), -2);
        CHECKS.due("n -1", made.judge(-1, 0), -2);
        CHECKS.due("n of the most", made.judge(Integer.MAX_VALUE, 111), -2);
        CHECKS.due("n of the least", made.judge(Integer.MIN_VALUE, 111), -2);
        for (int n = 1; n <= 3; n++) {
            int beyond = n == 1 ? 1000 : n == 2 ? 1000000 : 1000000000;
            CHECKS.due("row -1", made.judge(n, -1), -2);
            CHECKS.due("row 0", made.judge(n, 0), 0);
            CHECKS.due("all figures 9", made.judge(n, beyond - 1), 0);
            CHECKS.due("one figure more", made.judge(n, beyond), -2);
            CHECKS.due("the most", made.judge(n, Integer.MAX_VALUE), -2);
            CHECKS.due("the least", made.judge(n, Integer.MIN_VALUE), -2);
        }
    }

    @Says(value = "Terms 2: (a PERSON and 1, a FACT and 1, a VOICE: SAID, and somebody puts it right)",
        by = "each figure of each thing")
    static void judgeEachThingAtEachPlace() {
        int[] ahead = {0, 111000, 111111000};
        for (int things = 0; things < 1000; things += 100) {
            KnowsBetter made = Checks.table(FIVE_THAT_KNOW_ALL);
            for (int thing = things; thing < things + 100; thing++) {
                int person = thing / 100;
                int fact = thing / 10 % 10;
                int voice = thing % 10;
                boolean can = person >= 1 && person <= 5 && fact >= 1 && fact <= 6 && (voice == 1 || voice == 2);
                for (int n = 1; n <= 3; n++) {
                    int row = ahead[n - 1] + thing;
                    CHECKS.due("judge(" + n + ", " + row + ")", made.judge(n, row), can ? -9 : n - 1);
                }
            }
        }
    }

    @Says(value = "Terms 2: (there is no such PERSON, FACT, VOICE; nobody puts it right)",
        by = "of each number of PEOPLE")
    static void judgeTheLastPersonAndOneMore() {
        CHECKS.due("nobody", new KnowsBetter().judge(1, 111), 0);
        CHECKS.due("one alone: nobody puts it right", Checks.table("KP0hh").judge(1, 111), 0);
        for (int people = 2; people <= 5; people++) {
            KnowsBetter made = Checks.table("K" + "P0hh".repeat(people));
            CHECKS.due("the last one of " + people, made.judge(1, 100 * people + 11), -9);
            CHECKS.due("one more than " + people, made.judge(1, 100 * people + 111), 0);
            CHECKS.due("person 0", made.judge(1, 111), -9);
            CHECKS.due("none", made.judge(1, 11), 0);
        }
    }

    @Says("Terms 2: the place (from 0) of the first that can not be")
    static void judgeTheFirstOfSeveral() {
        KnowsBetter made = Checks.table(FIVE_THAT_KNOW_ALL);
        int[] rows = {111111111, 111111110, 111110111, 110111111, 111110110, 110110111, 110111110, 110110110};
        int[] due = {-9, 2, 1, 0, 1, 0, 0, 0};
        for (int i = 0; i < rows.length; i++) {
            CHECKS.due("judge(3, " + rows[i] + ")", made.judge(3, rows[i]), due[i]);
        }
        CHECKS.due("fewer figures: the first thing is 0", made.judge(3, 111111), 0);
        CHECKS.due("fewer figures: the first thing is 0", made.judge(2, 111), 0);
    }

    @Says("Terms 2: (there is no such PERSON, FACT, VOICE; nobody puts it right)")
    static void judgeNobodyPutsItRight() {
        KnowsBetter made = Checks.table("KP0aaP2baP0aaP1caP2aa");
        CHECKS.due("all are shy", made.judge(1, 111), 0);
        CHECKS.due("nobody knows", made.judge(1, 161), 0);
        CHECKS.due("wool too far off", made.judge(1, 122), 0);
        CHECKS.due("wool near enough", made.judge(1, 321), -9);
        CHECKS.due("wool near enough to another one", made.judge(1, 522), -9);
        CHECKS.due("no fines", made.about(2), 0);
    }

    @Says("Terms 2: (each is as if those ahead had been SAID)")
    static void judgeBehindThoseAhead() {
        KnowsBetter made = Checks.table("KP0baP0aaP0aaP0aaP0aa");
        CHECKS.due("nobody near 2 knows", made.judge(1, 311), 0);
        CHECKS.due("3 was told when 0 put 4 right", made.judge(2, 511311), -9);
        CHECKS.due("1 and 3 were told when 0 put 2 right", made.judge(2, 312311), -9);
        CHECKS.due("only 2 was told when 0 put 1 right", made.judge(2, 211311), 1);
        CHECKS.due("and once more", made.judge(3, 211211311), 2);
        CHECKS.due("the third one is behind both", made.judge(3, 211511311), -9);
        CHECKS.due("nothing stays from one call to the next", made.judge(1, 311), 0);
        KnowsBetter shy = Checks.table("KP0aaP2baP0aa");
        CHECKS.due("what can't be ends it", shy.judge(2, 111111), 0);
        CHECKS.due("and fines nobody", shy.about(2), 0);
    }

    // ---- promise 20

    @Says("Promise 20: SHARE. UNKNOWN.")
    static void shareRefusals() {
        for (int people = 0; people <= 5; people++) {
            KnowsBetter made = Checks.table("K" + "P0hh".repeat(people));
            for (int person = 0; person < people; person++) {
                // 6 by people, in least terms.
                int[] upper = {6, 3, 2, 3, 6};
                int[] lower = {1, 1, 1, 2, 5};
                CHECKS.due("upper of " + person, made.share(person, true), upper[people - 1]);
                CHECKS.due("lower of " + person, made.share(person, false), lower[people - 1]);
            }
            CHECKS.due("person -1", made.share(-1, true), -1);
            CHECKS.due("person -1", made.share(-1, false), -1);
            CHECKS.due("one beyond " + people, made.share(people, true), -1);
            CHECKS.due("one beyond " + people, made.share(people, false), -1);
        }
    }

    @Says(value = "Terms 2: SHARE of a PERSON", by = "of who brings nothing, and of who brings all")
    static void shareOfNothingAndOfAll() {
        KnowsBetter made = Checks.table("KP0aaP0hhP0aaP0aaP0aa");
        CHECKS.due("nothing, upper", made.share(0, true), 0);
        CHECKS.due("nothing, lower", made.share(0, false), 1);
        CHECKS.due("all, upper", made.share(1, true), 6);
        CHECKS.due("all, lower", made.share(1, false), 1);
        KnowsBetter none = Checks.table("KP0aaR000");
        CHECKS.due("alone, nothing", none.share(0, true), 0);
        CHECKS.due("alone, nothing", none.share(0, false), 1);
    }

    @Says("Terms 2: FACTS that they KNOW together (by RULES, from all that they were TOLD)")
    static void shareByRulesOfTwo() {
        // Who comes last of the two brings its own fact and four by rules: (1 + 5) by 2.
        KnowsBetter made = Checks.table("KP0baP0caR012R023R034R045");
        CHECKS.due("upper of 0", made.share(0, true), 3);
        CHECKS.due("lower of 0", made.share(0, false), 1);
        CHECKS.due("upper of 1", made.share(1, true), 3);
        // 0 and 1 give 4, too; with 2 they give 3, too: 2 brings 1, 1 or 2, and 0 brings 1, 2, 1 or 3.
        KnowsBetter three = Checks.table("KP0baP0caP0eaR014R423");
        CHECKS.due("upper of 2", three.share(2, true), 4);
        CHECKS.due("lower of 2", three.share(2, false), 3);
        CHECKS.due("upper of 0", three.share(0, true), 11);
        CHECKS.due("lower of 0", three.share(0, false), 6);
    }

    @Says("Terms 4: FRACTIONS are told above (upper = true), below, in least terms.")
    static void shareInLeastTerms() {
        KnowsBetter made = Checks.table("KP0baP0baP0baP0baP0bb");
        CHECKS.due("1 by 5", made.share(0, true), 1);
        CHECKS.due("1 by 5", made.share(0, false), 5);
        CHECKS.due("6 by 5", made.share(4, true), 6);
        CHECKS.due("6 by 5", made.share(4, false), 5);
        KnowsBetter mixed = Checks.table("KP0baP0daP0faP0haP0bh");
        // Fact 0 of five, fact 1 of two (1, 3), fact 2 of two (2, 3), 3 .. 5 of one.
        CHECKS.due("1 by 5 and 1 by 2 and 1 by 2", mixed.share(3, true), 6);
        CHECKS.due("1 by 5 and 1 by 2 and 1 by 2", mixed.share(3, false), 5);
        CHECKS.due("1 by 5 and 1 by 2", mixed.share(1, true), 7);
        CHECKS.due("1 by 5 and 1 by 2", mixed.share(1, false), 10);
        CHECKS.due("1 by 5 and 3", mixed.share(4, true), 16);
        CHECKS.due("1 by 5 and 3", mixed.share(4, false), 5);
    }
}
