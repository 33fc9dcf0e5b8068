import java.util.ArrayList;
import java.util.List;

/**
 * What is refused, by its own number, the first told of several, and with nothing changed by it:
 * each parameter is tried at both its ends, just beyond them and far off, all of them together.
 */
public final class RefusalsTest {
    private static final Checks CHECKS = new Checks();

    private interface Call {
        long answer(KnowsBetter made, int[] with);
    }

    /** The numbers that a parameter takes, and what is answered to all others. */
    private record Range(int low, int high, int refusal) {
        int[] tried() {
            return new int[] {low, high, low - 1, high + 1, low + 32, high + 256, Integer.MAX_VALUE,
                Integer.MIN_VALUE};
        }

        boolean takes(int number) {
            return number >= low && number <= high;
        }
    }

    /** A state that an object is brought to, with what is there then. */
    private enum State {
        NEW(0), IN_USE(4), FULL(5);

        private final int people;

        State(int people) {
            this.people = people;
        }

        KnowsBetter make() {
            return this == NEW ? new KnowsBetter() : this == IN_USE ? inUse() : full();
        }
    }

    private static final Range FACT = new Range(0, 5, -1);
    private static final Range VOICE = new Range(1, 2, -2);

    public static void main(String[] args) throws ReflectiveOperationException {
        CHECKS.run(RefusalsTest.class);
        CHECKS.end("RefusalsTest");
    }

    /** Acts, fines, one slot of two, SEEN, THE SEED, and a TEXT that lacks its last letter alone. */
    private static KnowsBetter inUse() {
        KnowsBetter made = Checks.table("KP0baP1caP2faP3ahR012R345");
        made.change(0, 3);
        made.say(0, 2, 2);
        made.keep(0);
        made.teach(1, 5);
        made.forget(2, 0);
        made.say(1, 1, 1);
        made.say(0, 2, 1);
        made.see(2, 1);
        made.see(4, 0);
        made.seed(-77);
        Checks.rewrite(made, "KP2hbP0caR123P1e");
        return made;
    }

    /** Five people, 40 bytes, 14 ACTS, 6 SEEN, both slots. */
    private static KnowsBetter full() {
        KnowsBetter made = Checks.table("KP0baP2caP2daP1ahP3abR012R345");
        made.keep(0);
        for (int act = 0; act < 5; act++) {
            made.change(act, (act + 2) % 5);
            made.say(act, 1, 2);
            made.teach(act, act < 3 ? 3 : 2);
        }
        made.keep(1);
        made.forget(2, 3);
        for (int fact = 0; fact < 6; fact++) {
            made.see(fact, fact % 2);
        }
        made.seed(Long.MAX_VALUE);
        for (int length = made.about(6); length < 40; length++) {
            made.write('P');
        }
        return made;
    }

    private static Range person(State state) {
        return new Range(0, state.people - 1, -1);
    }

    /** Tries each together with each; what is refused leaves the object as one is that was not asked. */
    private static void sweep(String name, State state, Call call, Range... ranges) {
        List<String> untouched = Trace.of(state.make());
        int ways = 1;
        for (int i = 0; i < ranges.length; i++) {
            ways *= 8;
        }
        for (int way = 0; way < ways; way++) {
            int[] with = new int[ranges.length];
            int rest = way;
            int due = 0;
            StringBuilder told = new StringBuilder(state + " " + name);
            for (int i = 0; i < with.length; i++) {
                with[i] = ranges[i].tried()[rest % 8];
                rest /= 8;
                due = due == 0 && !ranges[i].takes(with[i]) ? ranges[i].refusal() : due;
                told.append(' ').append(with[i]);
            }
            KnowsBetter made = state.make();
            long got = call.answer(made, with);
            if (due != 0) {
                CHECKS.due(told.toString(), got, due);
                CHECKS.due(told + ": as it was", untouched.equals(Trace.of(made)) ? 1 : 0, 1);
            } else {
                CHECKS.due(told + ": is taken", got == -1 || got == -2 ? 1 : 0, 0);
            }
        }
    }

    @Says({
        "Terms 4: REFUSALS: UNKNOWN -1 (there is no such PERSON, FACT, SLOT), BAD -2, LATE -3, FULL -4.",
        "Terms 4: NONE is -9."})
    static void numbers() {
        CHECKS.due("UNKNOWN", KnowsBetter.UNKNOWN, -1);
        CHECKS.due("BAD", KnowsBetter.BAD, -2);
        CHECKS.due("LATE", KnowsBetter.LATE, -3);
        CHECKS.due("FULL", KnowsBetter.FULL, -4);
        CHECKS.due("NONE", KnowsBetter.NONE, -9);
    }

    @Says(value = "Terms 4: What is refused changes nothing.", by = "as far as a trace tells objects apart")
    static void tracesTellApart() {
        List<List<String>> traces = new ArrayList<>();
        for (int change = 0; change < 12; change++) {
            KnowsBetter made = inUse();
            changeOne(made, change);
            List<String> trace = Trace.of(made);
            CHECKS.due("a change that no trace tells: " + change, traces.contains(trace) ? 1 : 0, 0);
            traces.add(trace);
        }
        CHECKS.due("the same twice", Trace.of(inUse()).equals(traces.get(0)) ? 1 : 0, 1);
        CHECKS.due("the same twice, full", Trace.of(full()).equals(Trace.of(full())) ? 1 : 0, 1);
    }

    private static void changeOne(KnowsBetter made, int change) {
        switch (change) {
            case 1 -> made.write('b');
            case 2 -> made.wipe();
            case 3 -> made.undo();
            case 4 -> made.teach(0, 5);
            case 5 -> made.change(1, 2);
            case 6 -> made.say(0, 0, 1);
            case 7 -> made.see(5, 1);
            case 8 -> made.unsee();
            case 9 -> made.seed(0);
            case 10 -> made.keep(0);
            case 11 -> made.keep(1);
            default -> made.rests(0);
        }
    }

    // ---- by what is told with the call

    @Says({
        "Promise 2: BAD; FULL: there are 40.",
        "Terms 4: Of several what is told first.",
        "Terms 4: What is refused changes nothing."})
    static void write() {
        sweep("write", State.NEW, (made, with) -> made.write(with[0]), new Range(0, 255, -2));
        sweep("write", State.IN_USE, (made, with) -> made.write(with[0]), new Range(0, 255, -2));
        stays("write", State.FULL, -4, made -> made.write('c'));
        stays("write", State.FULL, -2, made -> made.write(256));
    }

    @Says({
        "Promise 6: BAD.",
        "Promise 7: UNKNOWN; BAD.",
        "Promise 8: UNKNOWN: both",
        "Terms 4: Of several what is told first.",
        "Terms 4: What is refused changes nothing."})
    static void aboutPersonFar() {
        for (State state : State.values()) {
            sweep("about", state, (made, with) -> made.about(with[0]), new Range(0, 6, -2));
            sweep("person", state, (made, with) -> made.person(with[0], with[1]), person(state),
                new Range(0, 4, -2));
            sweep("far", state, (made, with) -> made.far(with[0], with[1]), person(state), person(state));
        }
    }

    @Says({
        "Promise 9: UNKNOWN: person, fact; BAD: voice.",
        "Terms 4: Of several what is told first.",
        "Terms 4: What is refused changes nothing."})
    static void say() {
        for (State state : State.values()) {
            sweep("say", state, (made, with) -> made.say(with[0], with[1], with[2]), person(state), FACT, VOICE);
        }
    }

    @Says({
        "Promise 10: UNKNOWN: person, fact",
        "Promise 11: UNKNOWN: person, fact",
        "Terms 4: What is refused changes nothing."})
    static void teachAndForget() {
        for (State state : State.values()) {
            sweep("teach", state, (made, with) -> made.teach(with[0], with[1]), person(state), FACT);
            sweep("forget", state, (made, with) -> made.forget(with[0], with[1]), person(state), FACT);
        }
    }

    @Says({
        "Promise 12: UNKNOWN: person, other; BAD: both are one.",
        "Terms 4: Of several what is told first.",
        "Terms 4: What is refused changes nothing."})
    static void change() {
        for (State state : State.values()) {
            // Both at one end are both one: refused, too, but told behind the others.
            Call call = (made, with) -> with[0] == with[1] && person(state).takes(with[0])
                ? 0 : made.change(with[0], with[1]);
            sweep("change", state, call, person(state), person(state));
            for (int person = 0; person < state.people; person++) {
                int one = person;
                stays("change " + one, state, -2, made -> made.change(one, one));
            }
        }
    }

    @Says({
        "Promise 14: UNKNOWN; BAD: voice.",
        "Promise 15: UNKNOWN; BAD: voice.",
        "Terms 4: Of several what is told first.",
        "Terms 4: What is refused changes nothing."})
    static void hearersAndSafe() {
        for (State state : State.values()) {
            sweep("hearers", state, (made, with) -> made.hearers(with[0], with[1]), person(state), VOICE);
            sweep("safe", state, (made, with) -> made.safe(with[0], with[1]), person(state), VOICE);
        }
    }

    @Says({
        "Promise 16: UNKNOWN: person, fact; BAD: voice.",
        "Terms 4: Of several what is told first.",
        "Terms 4: What is refused changes nothing."})
    static void seating() {
        for (State state : State.values()) {
            sweep("seating", state, (made, with) -> made.seating(with[0], with[1], with[2], true, false),
                person(state), FACT, VOICE);
            sweep("seating", state, (made, with) -> made.seating(with[0], with[1], with[2], false, true),
                person(state), FACT, VOICE);
        }
    }

    @Says({
        "Promise 17: UNKNOWN: person, fact.",
        "Promise 18: UNKNOWN: person, fact.",
        "Promise 20: UNKNOWN.",
        "Terms 4: What is refused changes nothing."})
    static void keepFromLearnShare() {
        for (State state : State.values()) {
            sweep("keepFrom", state, (made, with) -> made.keepFrom(with[0], with[1]), person(state), FACT);
            sweep("learn", state, (made, with) -> made.learn(with[0], with[1]), person(state), FACT);
            sweep("share", state, (made, with) -> made.share(with[0], true), person(state));
            sweep("share", state, (made, with) -> made.share(with[0], false), person(state));
        }
    }

    @Says({"Promise 19: BAD: n, row (0 or more, 3 n figures at most).", "Terms 4: What is refused changes nothing."})
    static void judge() {
        for (State state : State.values()) {
            sweep("judge", state, (made, with) -> made.judge(with[0], 111), new Range(1, 3, -2));
            sweep("judge 1", state, (made, with) -> made.judge(1, with[0]), new Range(0, 999, -2));
            sweep("judge 2", state, (made, with) -> made.judge(2, with[0]), new Range(0, 999999, -2));
            sweep("judge 3", state, (made, with) -> made.judge(3, with[0]), new Range(0, 999999999, -2));
        }
    }

    @Says({
        "Promise 21: UNKNOWN: fact; BAD: spoke (0, 1); FULL: 6.",
        "Terms 4: Of several what is told first.",
        "Terms 4: What is refused changes nothing."})
    static void see() {
        Range spoke = new Range(0, 1, -2);
        for (State state : State.values()) {
            sweep("see", state, (made, with) -> made.see(with[0], with[1]), FACT, spoke);
        }
        stays("see 0", State.FULL, -4, made -> made.see(0, 0));
        stays("see 5", State.FULL, -4, made -> made.see(5, 1));
    }

    @Says({"Promise 23: BAD.", "Promise 24: BAD.", "Terms 4: What is refused changes nothing."})
    static void mindsAndRests() {
        for (State state : State.values()) {
            sweep("minds", state, (made, with) -> made.minds(with[0]), new Range(0, 2, -2));
            sweep("rests", state, (made, with) -> made.rests(with[0]), new Range(0, 1, -2));
        }
    }

    @Says({
        "Promise 25: UNKNOWN: person, fact; BAD: voice, x.",
        "Terms 4: Of several what is told first.",
        "Terms 4: What is refused changes nothing."})
    static void deaf() {
        Range x = new Range(0, 10, -2);
        sweep("deaf", State.NEW, (made, with) -> made.deaf(with[0], with[1], with[2], with[3], true),
            person(State.NEW), FACT, VOICE, x);
        sweep("deaf", State.FULL, (made, with) -> made.deaf(with[0], with[1], with[2], with[3], false),
            person(State.FULL), FACT, VOICE, x);
    }

    @Says(value = {
        "Promise 27: BAD: m.",
        "Terms 4: What is refused changes nothing."},
        by = "THE SEED, too")
    static void evenings() {
        for (State state : State.values()) {
            sweep("evenings", state, (made, with) -> made.evenings(with[0]), new Range(1, 30, -2));
        }
    }

    @Says({
        "Promise 28: UNKNOWN.",
        "Promise 29: UNKNOWN",
        "Terms 4: UNKNOWN -1 (there is no such PERSON, FACT, SLOT)",
        "Terms 4: What is refused changes nothing."})
    static void keepAndAgain() {
        Range slot = new Range(0, 1, -1);
        for (State state : State.values()) {
            sweep("keep", state, (made, with) -> made.keep(with[0]), slot);
            sweep("again", state, (made, with) -> made.again(with[0]), slot);
        }
    }

    // ---- by what was done before

    private interface Asked {
        long answer(KnowsBetter made);
    }

    private static void stays(String name, State state, int due, Asked asked) {
        KnowsBetter made = state.make();
        CHECKS.due(state + " " + name, asked.answer(made), due);
        CHECKS.due(state + " " + name + " again", asked.answer(made), due);
        boolean same = Trace.of(made).equals(Trace.of(state.make()));
        CHECKS.due(state + " " + name + ": as it was", same ? 1 : 0, 1);
    }

    @Says({"Promise 5: LATE: a FAULT.", "Terms 4: What is refused changes nothing."})
    static void tableLate() {
        for (State state : State.values()) {
            stays("table", state, -3, KnowsBetter::table);
        }
    }

    @Says({"Promise 10: LATE: it was TOLD that.", "Terms 4: What is refused changes nothing."})
    static void teachLate() {
        stays("teach", State.IN_USE, -3, made -> made.teach(1, 5));
        stays("teach", State.FULL, -3, made -> made.teach(4, 2));
    }

    @Says({"Promise 11: LATE: it was not TOLD that.", "Terms 4: What is refused changes nothing."})
    static void forgetLate() {
        stays("forget", State.IN_USE, -3, made -> made.forget(2, 0));
        stays("forget", State.FULL, -3, made -> made.forget(2, 3));
    }

    @Says({"Promise 13: LATE: there is none.", "Terms 4: What is refused changes nothing."})
    static void undoLate() {
        stays("undo", State.NEW, -3, KnowsBetter::undo);
        KnowsBetter made = inUse();
        KnowsBetter other = inUse();
        for (int act = 0; act < 6; act++) {
            made.undo();
            other.undo();
        }
        CHECKS.due("undo", made.undo(), -3);
        CHECKS.due("as it was", Trace.of(made).equals(Trace.of(other)) ? 1 : 0, 1);
    }

    @Says({"Promise 29: LATE: none were kept.", "Terms 4: What is refused changes nothing."})
    static void againLate() {
        stays("again 0", State.NEW, -3, made -> made.again(0));
        stays("again 1", State.NEW, -3, made -> made.again(1));
        stays("again 1", State.IN_USE, -3, made -> made.again(1));
    }

    // ---- what is asked and taken changes nothing, either

    private static void asked(String name, Call call, Range... ranges) {
        State[] states = {State.IN_USE, State.FULL};
        for (State state : states) {
            KnowsBetter made = state.make();
            int ways = 1;
            for (Range range : ranges) {
                ways *= range.high() - range.low() + 1;
            }
            for (int way = 0; way < ways; way++) {
                int[] with = new int[ranges.length];
                int rest = way;
                for (int i = 0; i < with.length; i++) {
                    int count = ranges[i].high() - ranges[i].low() + 1;
                    with[i] = ranges[i].low() + rest % count;
                    rest /= count;
                }
                call.answer(made, with);
            }
            boolean same = Trace.of(made).equals(Trace.of(state.make()));
            CHECKS.due(state + " " + name + ": as it was", same ? 1 : 0, 1);
        }
    }

    private static final Range PEOPLE = new Range(0, 3, 0);
    private static final Range SOME_FACTS = new Range(1, 2, 0);

    @Says(value = {
        "Promise 4: FAULT; NONE.",
        "Promise 6: PEOPLE (what = 0), RULES (1)",
        "Promise 7: Of a PERSON its KIND",
        "Promise 8: FAR."},
        by = "asked, nothing is changed")
    static void tableIsAsked() {
        asked("fault", (made, with) -> made.fault());
        asked("about", (made, with) -> made.about(with[0]), new Range(0, 6, 0));
        asked("person", (made, with) -> made.person(with[0], with[1]), PEOPLE, new Range(0, 4, 0));
        asked("far", (made, with) -> made.far(with[0], with[1]), PEOPLE, PEOPLE);
    }

    @Says("Terms 2: In what follows nothing is changed.")
    static void hearingIsAsked() {
        asked("hearers", (made, with) -> made.hearers(with[0], with[1]), PEOPLE, VOICE);
        asked("safe", (made, with) -> made.safe(with[0], with[1]), PEOPLE, VOICE);
        asked("seating", (made, with) -> made.seating(with[0], with[1], with[2], with[3] == 1, true), PEOPLE,
            SOME_FACTS, VOICE, new Range(0, 1, 0));
        asked("keepFrom", (made, with) -> made.keepFrom(with[0], with[1]), PEOPLE, FACT);
        asked("learn", (made, with) -> made.learn(with[0], with[1]), PEOPLE, FACT);
        asked("judge", (made, with) -> made.judge(2, 1000 * (100 * with[0] + 10 * with[1] + 2) + 141),
            new Range(1, 4, 0), new Range(1, 6, 0));
        asked("share", (made, with) -> made.share(with[0], with[1] == 1), PEOPLE, new Range(0, 1, 0));
    }

    @Says(value = {
        "Promise 23: MINDS",
        "Promise 24: RESTS",
        "Promise 25: DEAF."},
        by = "asked, nothing is changed")
    static void mindsAreAsked() {
        asked("minds", (made, with) -> made.minds(with[0]), new Range(0, 2, 0));
        asked("rests", (made, with) -> made.rests(with[0]), new Range(0, 1, 0));
        asked("deaf", (made, with) -> made.deaf(with[0], with[1], with[2], 5, true), PEOPLE, SOME_FACTS, VOICE);
    }

    @Says(value = "Terms 3: (Nothing changes but THE SEED.)", by = "as far as a trace tells")
    static void eveningsAreAsked() {
        asked("evenings", (made, with) -> {
            long was = made.seed(with[0]);
            long more = made.evenings(30);
            made.seed(was);
            return more;
        }, new Range(1, 6, 0));
    }

    @Says(value = "Promise 28: They are kept", by = "and nothing else is changed")
    static void keepIsNoAct() {
        KnowsBetter made = inUse();
        KnowsBetter other = inUse();
        made.keep(1);
        for (int what = 0; what <= 6; what++) {
            CHECKS.due("about(" + what + ")", made.about(what), other.about(what));
        }
        for (int act = 0; act < 7; act++) {
            CHECKS.due("undo", made.undo(), other.undo());
            CHECKS.due("told", made.person(1, 1), other.person(1, 1));
        }
    }
}
