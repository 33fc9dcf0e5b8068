import java.util.ArrayList;
import java.util.List;

/**
 * All that an object answers when it is asked out: two objects with the same trace are in the same state.
 * It takes some 350 calls and leaves the object in another state.
 */
final class Trace {
    private final KnowsBetter made;
    private final List<String> answers = new ArrayList<>();

    private Trace(KnowsBetter made) {
        this.made = made;
    }

    static List<String> of(KnowsBetter made) {
        Trace trace = new Trace(made);
        trace.now();
        trace.acts();
        trace.slots();
        trace.text();
        return trace.answers;
    }

    private void note(String what, long answer) {
        answers.add(what + " " + answer);
    }

    private void now() {
        for (int what = 0; what <= 6; what++) {
            note("about " + what, made.about(what));
        }
        note("fault", made.fault());
        note("seed", made.seed(1));
        for (int what = 0; what <= 2; what++) {
            note("minds " + what, made.minds(what));
        }
        note("unsee", made.unsee());
        people(0, 4);
        for (int person = 0; person < 5; person++) {
            note("hearers of " + person, made.hearers(person, 2));
        }
    }

    private void people(int from, int to) {
        for (int person = 0; person < 5; person++) {
            for (int what = from; what <= to; what++) {
                note(person + ": " + what, made.person(person, what));
            }
        }
    }

    private void told() {
        for (int person = 0; person < 5; person++) {
            note(person + ": told", made.person(person, 1));
            note(person + ": seat", made.person(person, 3));
            note(person + ": fines", made.person(person, 4));
        }
    }

    private void acts() {
        int left = 1;
        for (int times = 0; times <= 14 && left >= 0; times++) {
            left = made.undo();
            note("undo", left);
            told();
        }
    }

    private void slots() {
        for (int slot = 0; slot <= 1; slot++) {
            note("again " + slot, made.again(slot));
            told();
        }
    }

    /** A text that lacks its last letter alone tells all its bytes by the table that is made of it. */
    private void text() {
        note("write", made.write('c'));
        note("fault", made.fault());
        note("table", made.table());
        people(0, 2);
        note("wipe", made.wipe());
    }
}
