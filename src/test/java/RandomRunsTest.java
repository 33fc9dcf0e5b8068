import java.util.Random;

/**
 * Runs of at most 512 random calls, right and wrong ones, each answer compared with PlainModel's.
 * What a refused call changed would show in the answers behind it.
 */
public final class RandomRunsTest {
    /** A table set at the very last and the questions at the end are some 70 more: 512 in all are promised. */
    private static final int RUNS = 450, CALLS = 430;
    private static final int[] WILD = {-1, 7, 32, 33, 64, 255, 256, Integer.MAX_VALUE, Integer.MIN_VALUE};

    private static final Checks CHECKS = new Checks();
    private static final Random RANDOM = new Random(20261119);

    private KnowsBetter made = new KnowsBetter();
    private PlainModel model = new PlainModel();

    public static void main(String[] args) {
        for (int run = 0; run < RUNS; run++) {
            new RandomRunsTest().run(run);
        }
        CHECKS.end("RandomRunsTest");
    }

    private void run(int run) {
        int asked = run % 10 == 0 ? 0 : setTable();
        while (asked < CALLS) {
            int kind = RANDOM.nextInt(100);
            if (kind == 0) {
                asked += setTable();
            } else if (kind < 4) {
                asked += writeSomething();
            } else {
                asked++;
                call(run + "." + asked);
            }
        }
        for (int what = 0; what < 7; what++) {
            CHECKS.due(run + " at last: about(" + what + ")", made.about(what), model.about(what));
        }
        for (int person = 0; person < 5; person++) {
            for (int what = 0; what < 5; what++) {
                CHECKS.due(run + " at last: person(" + person + ", " + what + ")", made.person(person, what),
                    model.person(person, what));
            }
        }
    }

    private int setTable() {
        StringBuilder text = new StringBuilder("K");
        int people = RANDOM.nextInt(8) == 0 ? RANDOM.nextInt(6) : 3 + RANDOM.nextInt(3);
        int rules = RANDOM.nextInt(5);
        while (people + rules > 0) {
            if (RANDOM.nextInt(people + rules) < people) {
                text.append('P').append(RANDOM.nextInt(4)).append(letter()).append(letter());
                people--;
            } else {
                text.append('R').append(RANDOM.nextInt(6)).append(RANDOM.nextInt(6)).append(RANDOM.nextInt(6));
                rules--;
            }
        }
        CHECKS.due("wipe()", made.wipe(), model.wipe());
        for (int i = 0; i < text.length(); i++) {
            CHECKS.due("write", made.write(text.charAt(i)), model.write(text.charAt(i)));
        }
        CHECKS.due("fault() of " + text, made.fault(), model.fault());
        CHECKS.due("table() of " + text, made.table(), model.table());
        return text.length() + 3;
    }

    private static char letter() {
        int known = RANDOM.nextInt(8) & RANDOM.nextInt(8);
        return (char) ('a' + known);
    }

    private int writeSomething() {
        String some = "KPR012345abchh6i";
        int count = 1 + RANDOM.nextInt(4);
        if (RANDOM.nextInt(3) == 0) {
            CHECKS.due("wipe()", made.wipe(), model.wipe());
            CHECKS.due("write(75)", made.write('K'), model.write('K'));
            count = RANDOM.nextInt(10);
        }
        for (int i = 0; i < count; i++) {
            int letter = RANDOM.nextInt(20) == 0 ? wild() : some.charAt(RANDOM.nextInt(some.length()));
            CHECKS.due("write", made.write(letter), model.write(letter));
            CHECKS.due("fault()", made.fault(), model.fault());
        }
        return 2 * count + 2;
    }

    private static int wild() {
        return WILD[RANDOM.nextInt(WILD.length)];
    }

    /** A number of low .. high, now and then one just beyond or far off. */
    private static int about(int low, int high) {
        int luck = RANDOM.nextInt(60);
        if (luck == 0) {
            return wild();
        }
        return luck < 4 ? low - 1 + RANDOM.nextInt(high - low + 3) : low + RANDOM.nextInt(high - low + 1);
    }

    private static int row(int n) {
        if (RANDOM.nextInt(12) == 0) {
            return RANDOM.nextInt();
        }
        int row = 0;
        for (int thing = 0; thing < n; thing++) {
            row = 1000 * row + 100 * about(1, 5) + 10 * about(1, 6) + about(1, 2);
        }
        return row;
    }

    private void call(String where) {
        int p = about(0, 4);
        int q = about(0, 4);
        int f = about(0, 5);
        int v = about(1, 2);
        boolean one = RANDOM.nextBoolean();
        boolean other = RANDOM.nextBoolean();
        String with = " p " + p + " q " + q + " f " + f + " v " + v + " " + one + " " + other;
        switch (RANDOM.nextInt(32)) {
            case 0, 1, 2, 3, 4 -> CHECKS.due(where + " say" + with, made.say(p, f, v), model.say(p, f, v));
            case 5, 6 -> CHECKS.due(where + " teach" + with, made.teach(p, f), model.teach(p, f));
            case 7, 8, 9 -> CHECKS.due(where + " forget" + with, made.forget(p, f), model.forget(p, f));
            case 10 -> CHECKS.due(where + " change" + with, made.change(p, q), model.change(p, q));
            case 11 -> CHECKS.due(where + " undo" + with, made.undo(), model.undo());
            case 12 -> CHECKS.due(where + " far" + with, made.far(p, q), model.far(p, q));
            case 13 -> CHECKS.due(where + " hearers" + with, made.hearers(p, v), model.hearers(p, v));
            case 14 -> CHECKS.due(where + " safe" + with, made.safe(p, v), model.safe(p, v));
            case 15, 16 -> CHECKS.due(where + " seating" + with, made.seating(p, f, v, one, other),
                model.seating(p, f, v, one, other));
            case 17 -> CHECKS.due(where + " keepFrom" + with, made.keepFrom(p, f), model.keepFrom(p, f));
            case 18 -> CHECKS.due(where + " learn" + with, made.learn(p, f), model.learn(p, f));
            case 19, 20 -> callJudge(where);
            case 21 -> CHECKS.due(where + " share" + with, made.share(p, one), model.share(p, one));
            case 22 -> callDeaf(where, p, f, v, one);
            case 23 -> CHECKS.due(where + " minds", made.minds(f % 4), model.minds(f % 4));
            default -> callPlain(where, p, q, f);
        }
    }

    private void callJudge(String where) {
        int n = about(1, 3);
        int row = row(Math.min(Math.max(n, 1), 3));
        CHECKS.due(where + " judge " + n + " " + row, made.judge(n, row), model.judge(n, row));
    }

    private void callDeaf(String where, int p, int f, int v, boolean upper) {
        int x = about(0, 10);
        CHECKS.due(where + " deaf " + x, made.deaf(p, f, v, x, upper), model.deaf(p, f, v, x, upper));
    }

    private void callPlain(String where, int p, int q, int f) {
        int slot = about(0, 1);
        int spoke = about(0, 1);
        int what = about(0, 6);
        int m = about(1, 30);
        long seed = RANDOM.nextLong();
        switch (RANDOM.nextInt(16)) {
            case 0, 1 -> CHECKS.due(where + " see", made.see(f, spoke), model.see(f, spoke));
            case 2 -> CHECKS.due(where + " unsee", made.unsee(), model.unsee());
            case 3 -> CHECKS.due(where + " rests", made.rests(what), model.rests(what));
            case 4 -> CHECKS.due(where + " seed", made.seed(seed), model.seed(seed));
            case 5, 6, 7 -> CHECKS.due(where + " evenings", made.evenings(m), model.evenings(m));
            case 8 -> CHECKS.due(where + " keep", made.keep(slot), model.keep(slot));
            case 9 -> CHECKS.due(where + " again", made.again(slot), model.again(slot));
            case 10, 11, 12 -> CHECKS.due(where + " about " + what, made.about(what), model.about(what));
            default -> CHECKS.due(where + " person " + p + " " + what, made.person(p, what), model.person(p, what));
        }
    }
}
