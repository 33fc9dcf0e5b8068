/** The document's first sentence, clause by clause, at one table; and how many facts there are. */
public final class WhatItIsTest {
    private static final Checks CHECKS = new Checks();

    /** A plain one, one in wool, a shy one, a licensed one, a plain one; fact 3 follows from 0 and 1. */
    private static final String TEXT = "KP0baP1caP2daP3aaP0aaR013";

    public static void main(String[] args) throws ReflectiveOperationException {
        CHECKS.run(WhatItIsTest.class);
        CHECKS.end("WhatItIsTest");
    }

    @Says("What it is: Whoever knows better must say so: in this land a false thing said in one's hearing has to be "
            + "put right, at once, by anyone who knows")
    static void putRight() {
        KnowsBetter made = Checks.table(TEXT);
        CHECKS.due("say(4, 0, 1)", made.say(4, 0, 1), 0);
        CHECKS.due("who heard it is told", made.person(3, 1), 1);
        CHECKS.due("who did not hear it is not", made.person(1, 1), 2);
        CHECKS.due("who said it pays", made.person(4, 4), 1);
        CHECKS.due("nobody else", made.about(2), 1);
    }

    @Says("What it is: or it is shared guilt")
    static void sharedGuilt() {
        KnowsBetter made = Checks.table(TEXT);
        CHECKS.due("say(1, 3, 1)", made.say(1, 3, 1), -9);
        CHECKS.due("the shy one that knows", made.person(2, 4), 12);
        CHECKS.due("nobody else", made.about(2), 12);
        KnowsBetter two = Checks.table("KP0aaP2baP2ba");
        CHECKS.due("two shy ones", two.say(0, 0, 1), -9);
        CHECKS.due("one's share", two.person(1, 4), 6);
        CHECKS.due("the other's share", two.person(2, 4), 6);
    }

    @Says("What it is: told as a text with the first fault")
    static void firstFault() {
        KnowsBetter made = Checks.written(TEXT);
        CHECKS.due("no fault", made.fault(), -9);
        made.write('X');
        made.write('P');
        CHECKS.due("the X", made.fault(), 25);
        CHECKS.due("no table", made.table(), -3);
    }

    @Says("What it is: facts, what follows from which two")
    static void whatFollows() {
        KnowsBetter made = Checks.table(TEXT);
        CHECKS.due("from both", made.person(2, 2), 11);
        CHECKS.due("from one", made.person(0, 2), 1);
        CHECKS.due("the other one, too", made.teach(0, 1), 11);
    }

    @Says("What it is: people round a table by what they know, by kind, plain ones, such as go about in wool, "
            + "shy ones, licensed liars")
    static void people() {
        KnowsBetter made = Checks.table(TEXT);
        int[] kinds = {0, 1, 2, 3, 0};
        int[] known = {1, 2, 11, 0, 0};
        for (int person = 0; person < 5; person++) {
            CHECKS.due("kind of " + person, made.person(person, 0), kinds[person]);
            CHECKS.due("known to " + person, made.person(person, 2), known[person]);
            CHECKS.due("seat of " + person, made.person(person, 3), person);
        }
        CHECKS.due("wool two off hears nothing", made.hearers(4, 2) >> 1 & 1, 0);
        CHECKS.due("a plain one says it", made.say(4, 0, 1), 0);
        CHECKS.due("a licensed one says it", made.say(3, 0, 2), 0);
        CHECKS.due("and pays nothing", made.person(3, 4), 0);
    }

    @Says("What it is: said false, taught, forgotten, seats changed, all undone")
    static void allUndone() {
        KnowsBetter made = Checks.table(TEXT);
        CHECKS.due("say(4, 0, 1)", made.say(4, 0, 1), 0);
        CHECKS.due("teach(4, 5)", made.teach(4, 5), 32);
        CHECKS.due("forget(0, 0)", made.forget(0, 0), 0);
        CHECKS.due("change(3, 4)", made.change(3, 4), 4);
        for (int left = 3; left >= 0; left--) {
            CHECKS.due("undo()", made.undo(), left);
        }
        CHECKS.due("the seat of 3", made.person(3, 3), 3);
        CHECKS.due("told to 0", made.person(0, 1), 1);
        CHECKS.due("told to 3", made.person(3, 1), 0);
        CHECKS.due("told to 4", made.person(4, 1), 0);
        CHECKS.due("fines", made.about(2), 0);
    }

    @Says("What it is: who hears, who knows, who puts it right, which facts one could say falsely unheard by any "
            + "who knows")
    static void whoHearsWhoKnows() {
        KnowsBetter made = Checks.table(TEXT);
        CHECKS.due("who hears 4 near", made.hearers(4, 1), 9);
        CHECKS.due("who hears 4 loud", made.hearers(4, 2), 13);
        CHECKS.due("what somebody knows", made.about(3), 11);
        CHECKS.due("safe near", made.safe(4, 1), 62);
        CHECKS.due("safe loud", made.safe(4, 2), 52);
        for (int fact = 0; fact < 6; fact++) {
            int said = made.say(4, fact, 1);
            CHECKS.due("who puts " + fact + " right", said, fact == 0 ? 0 : -9);
            made.undo();
        }
    }

    @Says("What it is: the seating by which fewest are guilty, or most")
    static void seatings() {
        KnowsBetter made = Checks.table(TEXT);
        CHECKS.due("fewest", made.seating(4, 0, 1, false, false), 0);
        CHECKS.due("who sits where then", made.seating(4, 0, 1, false, true), 12543);
        CHECKS.due("most", made.seating(4, 0, 1, true, false), 2);
        CHECKS.due("who sits where then", made.seating(4, 0, 1, true, true), 12435);
    }

    @Says("What it is: what to keep from knowing, what to learn, fewest")
    static void keepAndLearn() {
        KnowsBetter made = Checks.table(TEXT);
        CHECKS.due("kept from 3", made.keepFrom(2, 3), 1);
        made.forget(2, 0);
        CHECKS.due("knows 3 no more", made.person(2, 2), 2);
        CHECKS.due("learns 3", made.learn(2, 3), 1);
        CHECKS.due("one that knows nothing", made.learn(4, 3), 3);
        CHECKS.due("nothing teaches 2", made.learn(4, 2), -9);
    }

    @Says("What it is: what somebody may know, by where it spoke up and where not")
    static void whatSomebodyMayKnow() {
        KnowsBetter made = Checks.table(TEXT);
        made.see(3, 0);
        made.see(0, 1);
        CHECKS.due("how many", made.minds(0), 8);
        CHECKS.due("surely knows", made.minds(1), 1);
        CHECKS.due("surely does not know", made.minds(2), 10);
    }

    @Says("What it is: two who know and wait for each other, at rest")
    static void twoWhoWait() {
        KnowsBetter made = Checks.table(TEXT);
        CHECKS.due("0 and 2, 0 and 3, 2 and 0, 3 and 0", made.rests(0), 4);
        CHECKS.due("the first one", made.rests(1), 2);
    }

    @Says("What it is: shares of people in all that is known")
    static void shares() {
        KnowsBetter made = Checks.table(TEXT);
        int[] thirds = {2, 2, 5, 0, 0};
        int all = 0;
        for (int person = 0; person < 5; person++) {
            int lower = made.share(person, false);
            CHECKS.due("thirds of " + person, made.share(person, true) * 3, (long) thirds[person] * lower);
            all += made.share(person, true) * 3 / lower;
        }
        CHECKS.due("together all three facts", all, 9);
    }

    @Says("What it is: deaf ears by chance, evenings by a seed")
    static void chances() {
        KnowsBetter made = Checks.table(TEXT);
        CHECKS.due("both that know are deaf: above", made.deaf(4, 0, 2, 5, true), 1);
        CHECKS.due("below", made.deaf(4, 0, 2, 5, false), 4);
        KnowsBetter twin = Checks.table(TEXT);
        made.seed(11);
        long chance = 11;
        for (int evening = 0; evening < 20; evening++) {
            chance = chance * 6364136223846793005L + 1442695040888963407L;
            int draw = (int) ((chance >>> 33) % 60);
            twin.say(draw / 12, draw % 6, draw % 12 < 6 ? 1 : 2);
        }
        CHECKS.due("evenings(20)", made.evenings(20), twin.about(2));
        CHECKS.due("the seed", made.seed(11), chance);
        CHECKS.due("by the same seed the same", made.evenings(20), twin.about(2));
    }

    @Says("What it is: kept and gone on from.")
    static void keptAndGoneOnFrom() {
        KnowsBetter made = Checks.table(TEXT);
        made.say(4, 0, 1);
        CHECKS.due("keep(1)", made.keep(1), 1);
        made.say(1, 3, 1);
        made.change(0, 1);
        CHECKS.due("again(1)", made.again(1), 1);
        CHECKS.due("the seat of 0", made.person(0, 3), 0);
        CHECKS.due("fines of 2", made.person(2, 4), 0);
        CHECKS.due("told to 3", made.person(3, 1), 1);
    }

    @Says({"What it is: ======== 1 FACTS are 0 ..", "Terms 1: 5, PEOPLE"})
    static void factsAre0To5() {
        KnowsBetter made = Checks.table(TEXT);
        int[] known = {1, 11, 15, 15, 31, 63};
        for (int fact = 0; fact < 6; fact++) {
            CHECKS.due("teach(4, " + fact + ")", made.teach(4, fact), known[fact]);
        }
        CHECKS.due("all", made.person(4, 1), 63);
        CHECKS.due("teach(4, 6)", made.teach(4, 6), -1);
        CHECKS.due("teach(4, -1)", made.teach(4, -1), -1);
    }
}
