import java.math.BigInteger;
import java.util.ArrayDeque;
import java.util.ArrayList;
import java.util.Deque;
import java.util.List;
import java.util.Set;
import java.util.TreeSet;
import java.util.regex.Matcher;
import java.util.regex.Pattern;

/**
 * The document once more, as slowly and as plainly as it can be told, for the random runs to be
 * compared with. It shares no way of holding or counting things with the program.
 */
final class PlainModel {
    private static final Pattern TABLE = Pattern.compile("K(P[0-3][a-h][a-h]|R[0-5][0-5][0-5])*", Pattern.DOTALL);

    private static final class Someone {
        int kind;
        int fines;
        Set<Integer> told = new TreeSet<>();

        Someone copy() {
            Someone made = new Someone();
            made.kind = kind;
            made.fines = fines;
            made.told = new TreeSet<>(told);
            return made;
        }
    }

    private static final class State {
        List<Someone> people = new ArrayList<>();
        /** Who sits on seat 0, 1, .. */
        List<Integer> seats = new ArrayList<>();

        State copy() {
            State made = new State();
            for (Someone one : people) {
                made.people.add(one.copy());
            }
            made.seats = new ArrayList<>(seats);
            return made;
        }
    }

    private String text = "";
    private State now = new State();
    private final List<int[]> rules = new ArrayList<>();
    private final Deque<State> acts = new ArrayDeque<>();
    private final List<int[]> seen = new ArrayList<>();
    private final State[] slots = new State[2];
    private long seed;

    // ---- the table

    int write(int letter) {
        if (letter < 0 || letter > 255) {
            return Checks.BAD;
        }
        if (text.length() == 40) {
            return Checks.FULL;
        }
        text += (char) letter;
        return text.length();
    }

    int wipe() {
        int was = text.length();
        text = "";
        return was;
    }

    private static boolean canGoOn(String start) {
        Matcher matcher = TABLE.matcher(start);
        boolean shaped = matcher.matches() || matcher.hitEnd();
        return shaped && start.chars().filter(c -> c == 'P').count() <= 5
            && start.chars().filter(c -> c == 'R').count() <= 4;
    }

    int fault() {
        for (int i = 1; i <= text.length(); i++) {
            if (!canGoOn(text.substring(0, i))) {
                return i - 1;
            }
        }
        return TABLE.matcher(text).matches() ? Checks.NONE : text.length();
    }

    int table() {
        if (fault() != Checks.NONE) {
            return Checks.LATE;
        }
        now = new State();
        rules.clear();
        acts.clear();
        slots[0] = null;
        slots[1] = null;
        for (String part : text.substring(1).split("(?=[PR])")) {
            if (part.startsWith("P")) {
                Someone one = new Someone();
                one.kind = part.charAt(1) - '0';
                for (int fact = 0; fact < 6; fact++) {
                    if ((part.charAt(2 + fact / 3) - 'a' >> fact % 3) % 2 == 1) {
                        one.told.add(fact);
                    }
                }
                now.seats.add(now.people.size());
                now.people.add(one);
            } else if (part.startsWith("R")) {
                rules.add(new int[] {part.charAt(1) - '0', part.charAt(2) - '0', part.charAt(3) - '0'});
            }
        }
        return 10 * now.people.size() + rules.size();
    }

    int about(int what) {
        Set<Integer> known = new TreeSet<>();
        for (Someone one : now.people) {
            known.addAll(known(one.told));
        }
        int[] answers = {now.people.size(), rules.size(), fines(now), bits(known), acts.size(), seen.size(),
            text.length()};
        return what < 0 || what > 6 ? Checks.BAD : answers[what];
    }

    int person(int person, int what) {
        if (!isPerson(person)) {
            return Checks.UNKNOWN;
        }
        Someone one = now.people.get(person);
        int[] answers = {one.kind, bits(one.told), bits(known(one.told)), now.seats.indexOf(person), one.fines};
        return what < 0 || what > 4 ? Checks.BAD : answers[what];
    }

    int far(int person, int other) {
        return isPerson(person) && isPerson(other) ? far(now, person, other) : Checks.UNKNOWN;
    }

    private static int far(State state, int person, int other) {
        int count = state.people.size();
        int from = state.seats.indexOf(person);
        for (int steps = 0; ; steps++) {
            if (state.seats.get((from + steps) % count) == other
                || state.seats.get((from - steps + count) % count) == other) {
                return steps;
            }
        }
    }

    // ---- acts

    private void act() {
        acts.addLast(now.copy());
        if (acts.size() > 14) {
            acts.removeFirst();
        }
    }

    int say(int person, int fact, int voice) {
        int refusal = refusal(person, fact, voice);
        if (refusal != 0) {
            return refusal;
        }
        act();
        return said(now, person, fact, voice);
    }

    private int said(State state, int person, int fact, int voice) {
        int count = state.people.size();
        List<Someone> silent = new ArrayList<>();
        for (int seat = state.seats.indexOf(person) + 1; seat < state.seats.indexOf(person) + count; seat++) {
            int next = state.seats.get(seat % count);
            Someone one = state.people.get(next);
            if (hears(state, next, person, voice) && known(one.told).contains(fact)) {
                if (one.kind != 2) {
                    for (int hearer = 0; hearer < count; hearer++) {
                        if (hears(state, hearer, person, voice)) {
                            state.people.get(hearer).told.add(fact);
                        }
                    }
                    state.people.get(person).fines += state.people.get(person).kind == 3 ? 0 : 1;
                    return next;
                }
                silent.add(one);
            }
        }
        for (Someone one : silent) {
            one.fines += 12 / silent.size();
        }
        return Checks.NONE;
    }

    int teach(int person, int fact) {
        if (!isPerson(person) || !isFact(fact)) {
            return Checks.UNKNOWN;
        }
        if (now.people.get(person).told.contains(fact)) {
            return Checks.LATE;
        }
        act();
        now.people.get(person).told.add(fact);
        return bits(known(now.people.get(person).told));
    }

    int forget(int person, int fact) {
        if (!isPerson(person) || !isFact(fact)) {
            return Checks.UNKNOWN;
        }
        if (!now.people.get(person).told.contains(fact)) {
            return Checks.LATE;
        }
        act();
        now.people.get(person).told.remove(fact);
        return bits(known(now.people.get(person).told));
    }

    int change(int person, int other) {
        if (!isPerson(person) || !isPerson(other)) {
            return Checks.UNKNOWN;
        }
        if (person == other) {
            return Checks.BAD;
        }
        act();
        java.util.Collections.swap(now.seats, now.seats.indexOf(person), now.seats.indexOf(other));
        return now.seats.indexOf(person);
    }

    int undo() {
        if (acts.isEmpty()) {
            return Checks.LATE;
        }
        now = acts.removeLast();
        return acts.size();
    }

    // ---- who hears, who knows

    private static boolean hears(State state, int hearer, int speaker, int voice) {
        int most = state.people.get(hearer).kind == 1 ? 1 : voice;
        return hearer != speaker && far(state, hearer, speaker) <= most;
    }

    int hearers(int person, int voice) {
        if (refusal(person, 0, voice) != 0) {
            return refusal(person, 0, voice);
        }
        Set<Integer> set = new TreeSet<>();
        for (int one = 0; one < now.people.size(); one++) {
            if (hears(now, one, person, voice)) {
                set.add(one);
            }
        }
        return bits(set);
    }

    int safe(int person, int voice) {
        if (refusal(person, 0, voice) != 0) {
            return refusal(person, 0, voice);
        }
        Set<Integer> set = new TreeSet<>();
        for (int fact = 0; fact < 6; fact++) {
            if (knowingHearers(now, person, fact, voice) == 0) {
                set.add(fact);
            }
        }
        return bits(set);
    }

    private int knowingHearers(State state, int person, int fact, int voice) {
        int count = 0;
        for (int one = 0; one < state.people.size(); one++) {
            if (hears(state, one, person, voice) && known(state.people.get(one).told).contains(fact)) {
                count++;
            }
        }
        return count;
    }

    int seating(int person, int fact, int voice, boolean most, boolean figures) {
        if (refusal(person, fact, voice) != 0) {
            return refusal(person, fact, voice);
        }
        int bestCount = 0;
        int bestFigures = 0;
        for (List<Integer> order : orders(now.people.size())) {
            if (order.indexOf(0) == now.seats.indexOf(0)) {
                State tried = now.copy();
                tried.seats = order;
                int count = knowingHearers(tried, person, fact, voice);
                int shown = 0;
                for (int one : order) {
                    shown = shown * 10 + one + 1;
                }
                boolean better = most ? count > bestCount : count < bestCount;
                if (bestFigures == 0 || better || count == bestCount && shown < bestFigures) {
                    bestCount = count;
                    bestFigures = shown;
                }
            }
        }
        return figures ? bestFigures : bestCount;
    }

    private static List<List<Integer>> orders(int count) {
        List<List<Integer>> all = new ArrayList<>();
        if (count == 0) {
            all.add(new ArrayList<>());
            return all;
        }
        for (List<Integer> shorter : orders(count - 1)) {
            for (int place = 0; place < count; place++) {
                List<Integer> order = new ArrayList<>(shorter);
                order.add(place, count - 1);
                all.add(order);
            }
        }
        return all;
    }

    int keepFrom(int person, int fact) {
        if (!isPerson(person) || !isFact(fact)) {
            return Checks.UNKNOWN;
        }
        Set<Integer> told = now.people.get(person).told;
        for (int size = 0; size <= 6; size++) {
            for (int forgot = 0; forgot < 64; forgot++) {
                Set<Integer> gone = facts(forgot);
                Set<Integer> left = new TreeSet<>(told);
                left.removeAll(gone);
                if (gone.size() == size && told.containsAll(gone) && !known(left).contains(fact)) {
                    return forgot;
                }
            }
        }
        throw new IllegalStateException("it knows a fact from nothing");
    }

    int learn(int person, int fact) {
        if (!isPerson(person) || !isFact(fact)) {
            return Checks.UNKNOWN;
        }
        for (int size = 0; size <= 6; size++) {
            for (int taught = 0; taught < 64; taught++) {
                Set<Integer> all = facts(taught);
                if (all.size() == size && !all.contains(fact)) {
                    all.addAll(now.people.get(person).told);
                    if (known(all).contains(fact)) {
                        return taught;
                    }
                }
            }
        }
        return Checks.NONE;
    }

    int judge(int n, int row) {
        if (n < 1 || n > 3 || row < 0 || Integer.toString(row).length() > 3 * n) {
            return Checks.BAD;
        }
        String figures = String.format("%0" + 3 * n + "d", row);
        State tried = now.copy();
        for (int thing = 0; thing < n; thing++) {
            int person = figures.charAt(3 * thing) - '1';
            int fact = figures.charAt(3 * thing + 1) - '1';
            int voice = figures.charAt(3 * thing + 2) - '0';
            if (refusal(person, fact, voice) != 0 || said(tried, person, fact, voice) == Checks.NONE) {
                return thing;
            }
        }
        return Checks.NONE;
    }

    int share(int person, boolean upper) {
        if (!isPerson(person)) {
            return Checks.UNKNOWN;
        }
        int sum = 0;
        List<List<Integer>> all = orders(now.people.size());
        for (List<Integer> order : all) {
            Set<Integer> told = new TreeSet<>();
            for (int one : order) {
                int before = known(told).size();
                told.addAll(now.people.get(one).told);
                sum += one == person ? known(told).size() - before : 0;
            }
        }
        return fraction(BigInteger.valueOf(sum), BigInteger.valueOf(all.size()), upper);
    }

    // ---- minds

    int see(int fact, int spoke) {
        if (!isFact(fact)) {
            return Checks.UNKNOWN;
        }
        if (spoke != 0 && spoke != 1) {
            return Checks.BAD;
        }
        if (seen.size() == 6) {
            return Checks.FULL;
        }
        seen.add(new int[] {fact, spoke});
        return seen.size();
    }

    int unsee() {
        int was = seen.size();
        seen.clear();
        return was;
    }

    int minds(int what) {
        if (what < 0 || what > 2) {
            return Checks.BAD;
        }
        List<Set<Integer>> minds = new ArrayList<>();
        for (int told = 0; told < 64; told++) {
            Set<Integer> known = known(facts(told));
            if (seen.stream().allMatch(one -> known.contains(one[0]) == (one[1] == 1))) {
                minds.add(known);
            }
        }
        if (what == 0) {
            return minds.size();
        }
        Set<Integer> answer = new TreeSet<>();
        for (int fact = 0; fact < 6; fact++) {
            int asked = fact;
            long knowing = minds.stream().filter(mind -> mind.contains(asked)).count();
            if (knowing == (what == 1 ? minds.size() : 0)) {
                answer.add(fact);
            }
        }
        return minds.isEmpty() ? Checks.NONE : bits(answer);
    }

    // ---- rests, chances

    int rests(int what) {
        int[] answers = {4, 2};
        return what == 0 || what == 1 ? answers[what] : Checks.BAD;
    }

    int deaf(int person, int fact, int voice, int x, boolean upper) {
        if (refusal(person, fact, voice) != 0) {
            return refusal(person, fact, voice);
        }
        if (x < 0 || x > 10) {
            return Checks.BAD;
        }
        int knowing = knowingHearers(now, person, fact, voice);
        return fraction(BigInteger.valueOf(x).pow(knowing), BigInteger.TEN.pow(knowing), upper);
    }

    long seed(long v) {
        long was = seed;
        seed = v;
        return was;
    }

    int evenings(int m) {
        if (m < 1 || m > 30) {
            return Checks.BAD;
        }
        State tried = now.copy();
        for (int evening = 0; evening < m; evening++) {
            BigInteger next = BigInteger.valueOf(seed).multiply(new BigInteger("6364136223846793005"))
                .add(new BigInteger("1442695040888963407"));
            seed = next.longValue();
            int drawn = next.mod(BigInteger.ONE.shiftLeft(64)).shiftRight(33).mod(BigInteger.valueOf(60)).intValue();
            if (isPerson(drawn / 12)) {
                int left = drawn - drawn / 12 * 12;
                said(tried, drawn / 12, left >= 6 ? left - 6 : left, left >= 6 ? 2 : 1);
            }
        }
        return fines(tried) - fines(now);
    }

    // ---- slots

    int keep(int slot) {
        if (slot != 0 && slot != 1) {
            return Checks.UNKNOWN;
        }
        slots[slot] = now.copy();
        return fines(now);
    }

    int again(int slot) {
        if (slot != 0 && slot != 1) {
            return Checks.UNKNOWN;
        }
        if (slots[slot] == null) {
            return Checks.LATE;
        }
        now = slots[slot].copy();
        acts.clear();
        return fines(now);
    }

    // ---- parts

    private int refusal(int person, int fact, int voice) {
        if (!isPerson(person) || !isFact(fact)) {
            return Checks.UNKNOWN;
        }
        return voice == 1 || voice == 2 ? 0 : Checks.BAD;
    }

    private boolean isPerson(int person) {
        return person >= 0 && person < now.people.size();
    }

    private static boolean isFact(int fact) {
        return fact >= 0 && fact < 6;
    }

    private Set<Integer> known(Set<Integer> told) {
        Set<Integer> known = new TreeSet<>(told);
        for (boolean grew = true; grew; ) {
            grew = false;
            for (int[] rule : rules) {
                if (known.contains(rule[0]) && known.contains(rule[1])) {
                    grew |= known.add(rule[2]);
                }
            }
        }
        return known;
    }

    private static int fines(State state) {
        return state.people.stream().mapToInt(one -> one.fines).sum();
    }

    private static int bits(Set<Integer> set) {
        return set.stream().mapToInt(member -> 1 << member).sum();
    }

    private static Set<Integer> facts(int bits) {
        Set<Integer> set = new TreeSet<>();
        for (int fact = 0; fact < 6; fact++) {
            if ((bits >> fact) % 2 == 1) {
                set.add(fact);
            }
        }
        return set;
    }

    private static int fraction(BigInteger upper, BigInteger lower, boolean wantsUpper) {
        return (wantsUpper ? upper : lower).divide(upper.gcd(lower)).intValue();
    }
}
