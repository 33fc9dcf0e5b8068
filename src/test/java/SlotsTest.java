/** Promises 28 and 29: keep, again. */
public final class SlotsTest {
    private static final Checks CHECKS = new Checks();

    public static void main(String[] args) throws ReflectiveOperationException {
        CHECKS.run(SlotsTest.class);
        CHECKS.end("SlotsTest");
    }

    @Says({
        "Promise 28: They are kept: FINES of all.",
        "Promise 29: They are as they were kept: FINES of all.",
        "Terms 3: SLOTS 0 .. 1 keep what all were TOLD, SEATS, FINES (no ACTS when one goes on)."})
    static void keepAndGoOn() {
        KnowsBetter made = Checks.table("KP0aaP2baP0aa");
        made.say(0, 0, 1);
        made.change(1, 2);
        CHECKS.due("keep(0)", made.keep(0), 12);
        CHECKS.due("acts stay when kept", made.about(4), 2);
        made.teach(0, 3);
        made.forget(1, 0);
        made.change(0, 2);
        made.teach(2, 0);
        made.say(1, 0, 1);
        made.see(1, 1);
        made.seed(5);
        CHECKS.due("fines ahead", made.about(2), 13);
        CHECKS.due("again(0)", made.again(0), 12);
        CHECKS.due("fines", made.about(2), 12);
        CHECKS.due("fines of 1", made.person(1, 4), 12);
        CHECKS.due("told to 0", made.person(0, 1), 0);
        CHECKS.due("told to 1", made.person(1, 1), 1);
        CHECKS.due("seats", 100 * made.person(0, 3) + 10 * made.person(1, 3) + made.person(2, 3), 21);
        CHECKS.due("no acts", made.about(4), 0);
        CHECKS.due("no acts", made.undo(), Checks.LATE);
        CHECKS.due("seen stays", made.about(5), 1);
        CHECKS.due("the seed stays", made.seed(0), 5);
        made.teach(0, 5);
        CHECKS.due("what is kept stays", made.again(0), 12);
        CHECKS.due("told to 0", made.person(0, 1), 0);
    }

    @Says(value = "Terms 3: SLOTS 0 .. 1 keep what all were TOLD", by = "each its own")
    static void twoSlots() {
        KnowsBetter made = Checks.table("KP0aaP0ba");
        made.keep(0);
        made.teach(0, 1);
        CHECKS.due("keep(1)", made.keep(1), 0);
        made.teach(0, 2);
        made.again(0);
        CHECKS.due("slot 0", made.person(0, 1), 0);
        made.again(1);
        CHECKS.due("slot 1", made.person(0, 1), 2);
        made.say(0, 0, 1);
        CHECKS.due("kept over it", made.keep(0), 1);
        made.undo();
        CHECKS.due("slot 0 anew", made.again(0), 1);
        CHECKS.due("slot 1 still", made.again(1), 0);
    }

    @Says(value = {
        "Promise 28: They are kept: FINES of all.",
        "Promise 29: LATE: none were kept."},
        by = "before the first TABLE")
    static void slotsOfNobody() {
        KnowsBetter made = new KnowsBetter();
        CHECKS.due("keep nobody", made.keep(1), 0);
        CHECKS.due("again nobody", made.again(1), 0);
        CHECKS.due("the other slot", made.again(0), Checks.LATE);
        Checks.rewrite(made, "KP0ba");
        made.table();
        CHECKS.due("gone with the table", made.again(1), Checks.LATE);
        CHECKS.due("and nothing changed", made.person(0, 1), 1);
    }

    @Says({"Promise 28: UNKNOWN.", "Promise 29: UNKNOWN; LATE: none were kept."})
    static void refusals() {
        KnowsBetter made = Checks.table("KP0aaP0ba");
        made.teach(0, 1);
        int[] slots = {-1, 2, 32, Integer.MIN_VALUE, Integer.MAX_VALUE};
        for (int slot : slots) {
            CHECKS.due("keep(" + slot + ")", made.keep(slot), Checks.UNKNOWN);
            CHECKS.due("again(" + slot + ")", made.again(slot), Checks.UNKNOWN);
        }
        CHECKS.due("again(0)", made.again(0), Checks.LATE);
        CHECKS.due("again(1)", made.again(1), Checks.LATE);
        CHECKS.due("acts stay", made.about(4), 1);
    }
}
