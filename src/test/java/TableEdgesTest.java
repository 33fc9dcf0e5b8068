/** The boundaries of promises 5 to 8, and of what "Terms" say of who knows and how far one sits. */
public final class TableEdgesTest {
    private static final Checks CHECKS = new Checks();

    public static void main(String[] args) throws ReflectiveOperationException {
        CHECKS.run(TableEdgesTest.class);
        CHECKS.end("TableEdgesTest");
    }

    private static String people(int count) {
        return "P0aa".repeat(count);
    }

    // ---- promise 5

    @Says("Promise 5: 10 times PEOPLE, and RULES.")
    static void nobodyToFiveAndNoRulesToFour() {
        for (int people = 0; people <= 5; people++) {
            for (int rules = 0; rules <= 4; rules++) {
                KnowsBetter made = Checks.written("K" + people(people) + "R000".repeat(rules));
                CHECKS.due("table() of " + people + " and " + rules, made.table(), 10 * people + rules);
                CHECKS.due("people", made.about(0), people);
                CHECKS.due("rules", made.about(1), rules);
            }
        }
    }

    @Says("Promise 5: LATE: a FAULT.")
    static void tableOfAFault() {
        String[] texts = {"", "P", "KP", "KP0", "KP0a", "KP0aaR", "KP4aa", "KR006", "KP0aaK", "K" + people(6)};
        for (String text : texts) {
            KnowsBetter made = Checks.table("KP0daR012");
            Checks.rewrite(made, text);
            CHECKS.due("table() of " + text, made.table(), -3);
            CHECKS.due("the table stays", made.person(0, 2), 7);
            CHECKS.due("the text stays", made.about(6), text.length());
        }
    }

    @Says("Promise 5: (THE TEXT itself stays")
    static void textStays() {
        KnowsBetter made = Checks.table("KP0baR001");
        CHECKS.due("bytes", made.about(6), 9);
        CHECKS.due("no fault", made.fault(), -9);
        CHECKS.due("table() of it again", made.table(), 11);
        CHECKS.due("a byte behind it", made.write('P'), 10);
        CHECKS.due("fault", made.fault(), 10);
    }

    @Says("Promise 5: no ACTS; what was kept is gone")
    static void actsAndSlotsGo() {
        KnowsBetter made = Checks.table("KP0aaP0aa");
        for (int act = 0; act < 14; act++) {
            made.change(0, 1);
        }
        made.keep(0);
        made.keep(1);
        CHECKS.due("acts ahead", made.about(4), 14);
        made.table();
        CHECKS.due("acts", made.about(4), 0);
        CHECKS.due("undo()", made.undo(), -3);
        CHECKS.due("again(0)", made.again(0), -3);
        CHECKS.due("again(1)", made.again(1), -3);
    }

    @Says("Promise 5: SEEN, THE SEED stay)")
    static void seenAndSeedStay() {
        KnowsBetter made = Checks.written("KP0aa");
        for (int i = 0; i < 6; i++) {
            made.see(i, i % 2);
        }
        made.seed(Long.MIN_VALUE);
        made.table();
        CHECKS.due("seen", made.about(5), 6);
        CHECKS.due("one more", made.see(0, 0), -4);
        CHECKS.due("what was seen", made.minds(1), 2 | 8 | 32);
        CHECKS.due("the seed", made.seed(0), Long.MIN_VALUE);
    }

    @Says("Terms 1: When THE TABLE is made anew, PERSON p sits on SEAT p, nobody has FINES.")
    static void tableAnew() {
        KnowsBetter made = Checks.table("KP0aaP2baP2baP2baP0ba");
        made.say(1, 0, 1);
        made.say(2, 0, 1);
        made.change(0, 4);
        made.change(1, 3);
        CHECKS.due("fines ahead", made.about(2), 24);
        made.table();
        for (int person = 0; person < 5; person++) {
            CHECKS.due("seat of " + person, made.person(person, 3), person);
            CHECKS.due("fines of " + person, made.person(person, 4), 0);
        }
        CHECKS.due("fines of all", made.about(2), 0);
    }

    @Says(value = "Terms 1: PEOPLE 0, 1, ..", by = "who sat at the table before is gone")
    static void fewerPeopleAnew() {
        KnowsBetter made = Checks.table("KP1hhP2hhP3hhP0hhP0hhR012");
        Checks.rewrite(made, "KP0aa");
        CHECKS.due("table()", made.table(), 10);
        CHECKS.due("person 0", made.person(0, 1), 0);
        CHECKS.due("person 1", made.person(1, 1), -1);
        CHECKS.due("known", made.about(3), 0);
        Checks.rewrite(made, "K");
        CHECKS.due("table() of nobody", made.table(), 0);
        CHECKS.due("person 0", made.person(0, 1), -1);
        Checks.rewrite(made, "KP0aaP0da");
        CHECKS.due("table() of two", made.table(), 20);
        CHECKS.due("no rule is left", made.person(1, 2), 3);
    }

    // ---- promise 6

    @Says(value = "Promise 6: PEOPLE (what = 0), RULES (1), FINES of all (2), FACTS that somebody KNOWS (3: bits), "
            + "ACTS (4), SEEN (5), bytes of THE TEXT (6). BAD.",
        by = "from 0 to 6")
    static void aboutFrom0To6() {
        KnowsBetter made = Checks.table("KP0aa");
        CHECKS.due("about(-1)", made.about(-1), -2);
        CHECKS.due("about(0)", made.about(0), 1);
        CHECKS.due("about(6)", made.about(6), 5);
        CHECKS.due("about(7)", made.about(7), -2);
        CHECKS.due("about(the most)", made.about(Integer.MAX_VALUE), -2);
        CHECKS.due("about(the least)", made.about(Integer.MIN_VALUE), -2);
    }

    @Says(value = "Promise 6: PEOPLE (what = 0), RULES (1), FINES of all (2), FACTS that somebody KNOWS (3: bits), "
            + "ACTS (4), SEEN (5), bytes of THE TEXT (6).",
        by = "none of each")
    static void aboutOfNothing() {
        KnowsBetter made = new KnowsBetter();
        for (int what = 0; what <= 6; what++) {
            CHECKS.due("about(" + what + ")", made.about(what), 0);
        }
    }

    @Says(value = "Promise 6: PEOPLE (what = 0), RULES (1), FINES of all (2), FACTS that somebody KNOWS (3: bits), "
            + "ACTS (4), SEEN (5), bytes of THE TEXT (6).",
        by = "as many of each as there may be")
    static void aboutOfAll() {
        KnowsBetter made = Checks.table("KP0aaP2baP2aaP2aaP2aaR000R001R112R345");
        made.teach(0, 3);
        made.teach(0, 4);
        for (int act = 0; act < 20; act++) {
            made.say(0, 0, 1);
            made.see(0, 1);
            made.write('x');
        }
        int[] due = {5, 4, 240, 63, 14, 6, 40};
        for (int what = 0; what <= 6; what++) {
            CHECKS.due("about(" + what + ")", made.about(what), due[what]);
        }
    }

    @Says("Promise 6: FACTS that somebody KNOWS (3: bits)")
    static void knownBySomebody() {
        CHECKS.due("by nobody", Checks.table("KP0aaP0aa").about(3), 0);
        CHECKS.due("by two, half each", Checks.table("KP0haP0ah").about(3), 63);
        CHECKS.due("by a rule", Checks.table("KP0aaP0daR015").about(3), 35);
        CHECKS.due("not by two together", Checks.table("KP0baP0caR015").about(3), 3);
        CHECKS.due("by the fifth", Checks.table("K" + people(4) + "P0ae").about(3), 32);
        CHECKS.due("rules give nothing to nobody", Checks.table("KR000").about(3), 0);
    }

    // ---- promise 7

    @Says(value = "Promise 7: UNKNOWN", by = "from 0 to the last one")
    static void personFrom0ToTheLast() {
        for (int people = 0; people <= 5; people++) {
            KnowsBetter made = Checks.table("K" + people(people));
            for (int person = -2; person <= 6; person++) {
                boolean there = person >= 0 && person < people;
                CHECKS.due(person + " of " + people, made.person(person, 3), there ? person : -1);
            }
            CHECKS.due("the most", made.person(Integer.MAX_VALUE, 0), -1);
            CHECKS.due("the least", made.person(Integer.MIN_VALUE, 0), -1);
        }
    }

    @Says(value = "Promise 7: Of a PERSON its KIND (what = 0), what it was TOLD (1: bits), what it KNOWS (2: bits), "
            + "its SEAT (3), FINES (4). UNKNOWN; BAD.",
        by = "from 0 to 4")
    static void personWhatFrom0To4() {
        KnowsBetter made = Checks.table("KP3hhP2ba");
        CHECKS.due("what -1", made.person(0, -1), -2);
        CHECKS.due("what 0", made.person(0, 0), 3);
        CHECKS.due("what 4", made.person(0, 4), 0);
        CHECKS.due("what 5", made.person(0, 5), -2);
        CHECKS.due("the most", made.person(1, Integer.MAX_VALUE), -2);
        CHECKS.due("the least", made.person(1, Integer.MIN_VALUE), -2);
        CHECKS.due("no such person ahead of a bad what", made.person(2, 5), -1);
        CHECKS.due("no such person ahead of a bad what", made.person(-1, -1), -1);
    }

    @Says(value = "Promise 7: FINES (4)", by = "they have no end")
    static void finesGoOn() {
        KnowsBetter made = Checks.table("KP0aaP2ba");
        for (int times = 1; times <= 300; times++) {
            made.say(0, 0, 1);
        }
        CHECKS.due("fines", made.person(1, 4), 3600);
        CHECKS.due("fines of all", made.about(2), 3600);
    }

    @Says(value = "Terms 1: One KNOWS what it was TOLD", by = "no RULES")
    static void knownWithoutRules() {
        for (int facts = 0; facts < 64; facts++) {
            KnowsBetter made = Checks.table("KP0" + (char) ('a' + facts % 8) + (char) ('a' + facts / 8));
            CHECKS.due("told", made.person(0, 1), facts);
            CHECKS.due("known", made.person(0, 2), facts);
        }
    }

    @Says("Terms 1: and what RULES give from that, and so on.")
    static void rulesGiveOnInEachOrder() {
        String[] rules = {"R012", "R023", "R034", "R045"};
        int orders = 0;
        for (int order = 0; order < 256; order++) {
            int[] picked = {order % 4, order / 4 % 4, order / 16 % 4, order / 64};
            if ((1 << picked[0] | 1 << picked[1] | 1 << picked[2] | 1 << picked[3]) == 15) {
                orders++;
                String told = rules[picked[0]] + rules[picked[1]] + rules[picked[2]] + rules[picked[3]];
                CHECKS.due("by " + told, Checks.table("KP0da" + told).person(0, 2), 63);
                CHECKS.due("not without fact 1, by " + told, Checks.table("KP0ba" + told).person(0, 2), 1);
            }
        }
        CHECKS.due("orders", orders, 24);
    }

    @Says(value = "Terms 1: who knows FACTS i and j knows k, too", by = "of one alone nothing; i and j may be one")
    static void ruleOfOneFactAndOfTwo() {
        CHECKS.due("i alone", Checks.table("KP0baR015").person(0, 2), 1);
        CHECKS.due("j alone", Checks.table("KP0caR015").person(0, 2), 2);
        CHECKS.due("both", Checks.table("KP0daR015").person(0, 2), 35);
        CHECKS.due("both, told the other way round", Checks.table("KP0daR105").person(0, 2), 35);
        CHECKS.due("i is j", Checks.table("KP0baR005").person(0, 2), 33);
        CHECKS.due("k is i", Checks.table("KP0caR010").person(0, 2), 2);
        CHECKS.due("k is i and j", Checks.table("KP0aaR333").person(0, 2), 0);
    }

    // ---- promise 8

    @Says("Promise 8: UNKNOWN: both; 0 from itself.")
    static void farUnknownAndItself() {
        for (int people = 0; people <= 5; people++) {
            KnowsBetter made = Checks.table("K" + people(people));
            for (int person = 0; person < people; person++) {
                CHECKS.due("from itself", made.far(person, person), 0);
                CHECKS.due("other is beyond", made.far(person, people), -1);
                CHECKS.due("person is beyond", made.far(people, person), -1);
                CHECKS.due("other is below", made.far(person, -1), -1);
                CHECKS.due("person is below", made.far(-1, person), -1);
            }
            CHECKS.due("both are beyond, and one", made.far(people, people), -1);
            CHECKS.due("both are below, and one", made.far(-1, -1), -1);
        }
    }

    @Says("Terms 1: FAR from one to another one: how many SEATS on, one way round or the other, the fewer.")
    static void farBothWaysRound() {
        int[][] fromSeat0 = {{0}, {0, 1}, {0, 1, 1}, {0, 1, 2, 1}, {0, 1, 2, 2, 1}};
        for (int people = 1; people <= 5; people++) {
            KnowsBetter made = Checks.table("K" + people(people));
            for (int person = 0; person < people; person++) {
                for (int on = 0; on < people; on++) {
                    int other = (person + on) % people;
                    CHECKS.due(person + " to " + other + " of " + people, made.far(person, other),
                        fromSeat0[people - 1][on]);
                }
            }
        }
    }

    @Says("Terms 1: SEATS 0, 1, .. round a table (as many as PEOPLE, behind the last one comes 0)")
    static void behindTheLastSeatComes0() {
        for (int people = 2; people <= 5; people++) {
            KnowsBetter made = Checks.table("K" + people(people - 1) + "P0ba");
            CHECKS.due("the last one is near 0", made.far(people - 1, 0), 1);
            made.teach(0, 0);
            CHECKS.due("from the last seat on to 0", made.say(people - 1, 0, 1), 0);
            KnowsBetter back = Checks.table("KP0ba" + people(people - 1));
            CHECKS.due("nobody else knows", back.say(0, 0, 1), -9);
            CHECKS.due("the last one lies to 0", back.say(people - 1, 0, 1), 0);
        }
    }

    @Says(value = "Terms 1: how many SEATS on", by = "of SEATS, not of PEOPLE")
    static void farIsOfSeats() {
        KnowsBetter made = Checks.table("K" + people(5));
        made.change(0, 2);
        made.change(2, 4);
        // Seats 0 .. 4: persons 4, 1, 0, 3, 2.
        CHECKS.due("4 to 2", made.far(4, 2), 1);
        CHECKS.due("4 to 1", made.far(4, 1), 1);
        CHECKS.due("4 to 0", made.far(4, 0), 2);
        CHECKS.due("4 to 3", made.far(4, 3), 2);
        CHECKS.due("2 to 3", made.far(2, 3), 1);
        CHECKS.due("2 to 1", made.far(2, 1), 2);
    }
}
