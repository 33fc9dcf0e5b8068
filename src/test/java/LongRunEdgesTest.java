/** The boundary of a whole run: "An object is used for at most 512 calls after it has been made". */
public final class LongRunEdgesTest {
    private static final Checks CHECKS = new Checks();
    private static final int CALLS = 512;
    private static final String FULL_TABLE = "KP0baP1cbP2daP3ahP0aaR012R233R034R455";

    public static void main(String[] args) throws ReflectiveOperationException {
        CHECKS.run(LongRunEdgesTest.class);
        CHECKS.end("LongRunEdgesTest");
    }

    @Says(value = "What it is: An object is used for at most 512 calls after it has been made; what later calls answer "
            + "is free.",
        by = "the 512th call answers as is due")
    static void theLastCall() {
        KnowsBetter made = new KnowsBetter();
        String text = "KP0aaP2ba";
        int calls = 0;
        for (; calls < text.length(); calls++) {
            made.write(text.charAt(calls));
        }
        CHECKS.due("table()", made.table(), 20);
        int said = 0;
        for (calls++; calls < CALLS - 1; calls++) {
            said++;
            CHECKS.due("say " + said, made.say(0, 0, 1), -9);
        }
        CHECKS.due("the 512th call", made.about(2), 12 * said);
    }

    @Says(value = "What it is: An object is used for at most 512 calls", by = "each of the dear ones, to the last")
    static void dearCallsToTheLast() {
        KnowsBetter[] made = new KnowsBetter[6];
        long[] first = new long[6];
        int used = FULL_TABLE.length() + 2;
        for (int sort = 0; sort < 6; sort++) {
            made[sort] = Checks.table(FULL_TABLE);
            first[sort] = dear(made[sort], sort);
        }
        for (int call = used + 1; call < CALLS; call++) {
            for (int sort = 0; sort < 6; sort++) {
                CHECKS.due("dear call " + sort, dear(made[sort], sort), first[sort]);
            }
        }
    }

    private static long dear(KnowsBetter made, int sort) {
        switch (sort) {
            case 0: return made.seating(3, 2, 1, true, true);
            case 1: return made.share(1, true);
            case 2: return made.learn(4, 3);
            case 3: return made.keepFrom(3, 5);
            case 4: return made.minds(1);
            default: return made.judge(3, 311311211);
        }
    }

    @Says(value = "What it is: An object is used for at most 512 calls", by = "THE SEED goes on to the last evening")
    static void eveningsToTheLast() {
        KnowsBetter made = new KnowsBetter();
        long due = 0;
        for (int call = 1; call < CALLS; call++) {
            made.evenings(30);
        }
        for (int evening = 0; evening < 30 * (CALLS - 1); evening++) {
            due = due * 6364136223846793005L + 1442695040888963407L;
        }
        CHECKS.due("the seed at the 512th call", made.seed(0), due);
    }

    @Says(value = "What it is: An object is used for at most 512 calls", by = "the row of ACTS to the last")
    static void actsToTheLast() {
        KnowsBetter made = Checks.table("KP0aaP0aa");
        int calls = 11;
        int seat = 0;
        for (; calls < CALLS - 15; calls++) {
            seat = 1 - seat;
            CHECKS.due("change", made.change(0, 1), seat);
        }
        for (int left = 13; left >= 0; left--) {
            CHECKS.due("undo", made.undo(), left);
        }
        CHECKS.due("the 512th call", made.person(0, 3), seat);
    }
}
