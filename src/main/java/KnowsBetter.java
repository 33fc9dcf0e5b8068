/**
 * People round a table who must put right, at once, a false thing said in their hearing.
 *
 * <p>The numbered promises that the methods keep stand in ../shared/DOC.md. No call makes an
 * object: all rows are made in the constructor and used again, since all calls of a run share
 * one room.
 */
public final class KnowsBetter {
    public static final int UNKNOWN = -1, BAD = -2, LATE = -3, FULL = -4, NONE = -9;

    private static final int FACTS = 6, ALL_FACTS = 63;
    private static final int MOST_PEOPLE = 5, MOST_RULES = 4, MOST_BYTES = 40, PART_BYTES = 4;
    private static final int MOST_ACTS = 14, MOST_SEEN = 6, SLOTS = 2, MOST_EVENINGS = 30;
    private static final int WOOL = 1, SHY = 2, LICENSED = 3;
    private static final int LOUDEST = 2, LIAR_FINE = 1, SILENCE_FINE = 12;
    private static final int LONGEST_WAIT = 3, BOTH_SILENT_COST = 6, SPEAKER_COST = 3, LISTENER_COST = 1;
    private static final long MULTIPLIER = 6364136223846793005L, INCREMENT = 1442695040888963407L;

    /** Beside the refusals, which are all below 0. */
    private static final int ALLOWED = 0;

    private final Text text;
    private final Table table;
    private final Round now;
    /** For what is asked and changes nothing: it is tried out here. */
    private final Round draft;
    private final Acts acts;
    private final Shelf slots;
    private final Seen seen;
    /** The slots that hold something, as bits. */
    private int filledSlots;
    private long chance;

    public KnowsBetter() {
        Table shared = new Table();
        text = new Text();
        table = shared;
        now = new Round(shared);
        draft = new Round(shared);
        acts = new Acts();
        slots = new Shelf(SLOTS);
        seen = new Seen();
    }

    // ---- the table

    public int write(int letter) {
        if (letter < 0 || letter > 255) {
            return BAD;
        }
        return text.append(letter);
    }

    public int wipe() {
        return text.clear();
    }

    public int fault() {
        return text.firstFault();
    }

    public int table() {
        if (text.firstFault() != NONE) {
            return LATE;
        }
        table.clear();
        now.clear();
        for (int part = 1; part < text.length(); part += PART_BYTES) {
            if (text.at(part) == 'P') {
                admit(part);
            } else {
                table.addRule(text.digit(part + 1), text.digit(part + 2), text.digit(part + 3));
            }
        }
        acts.clear();
        filledSlots = 0;
        return 10 * table.people() + table.rules();
    }

    public int about(int what) {
        switch (what) {
            case 0: return table.people();
            case 1: return table.rules();
            case 2: return now.allFines();
            case 3: return now.knownBySomebody();
            case 4: return acts.count();
            case 5: return seen.count();
            case 6: return text.length();
            default: return BAD;
        }
    }

    public int person(int person, int what) {
        if (!isPerson(person)) {
            return UNKNOWN;
        }
        switch (what) {
            case 0: return table.kind(person);
            case 1: return now.told(person);
            case 2: return now.known(person);
            case 3: return now.seat(person);
            case 4: return now.fines(person);
            default: return BAD;
        }
    }

    public int far(int person, int other) {
        if (!isPerson(person) || !isPerson(other)) {
            return UNKNOWN;
        }
        return now.distance(person, other);
    }

    // ---- acts

    public int say(int person, int fact, int voice) {
        int refusal = refusalToSay(person, fact, voice);
        if (refusal != ALLOWED) {
            return refusal;
        }
        acts.remember(now);
        return now.lie(person, fact, voice);
    }

    public int teach(int person, int fact) {
        if (!isPerson(person) || !isFact(fact)) {
            return UNKNOWN;
        }
        if (contains(now.told(person), fact)) {
            return LATE;
        }
        acts.remember(now);
        now.setTold(person, now.told(person) | 1 << fact);
        return now.known(person);
    }

    public int forget(int person, int fact) {
        if (!isPerson(person) || !isFact(fact)) {
            return UNKNOWN;
        }
        if (!contains(now.told(person), fact)) {
            return LATE;
        }
        acts.remember(now);
        now.setTold(person, now.told(person) & ~(1 << fact));
        return now.known(person);
    }

    public int change(int person, int other) {
        if (!isPerson(person) || !isPerson(other)) {
            return UNKNOWN;
        }
        if (person == other) {
            return BAD;
        }
        acts.remember(now);
        int seat = now.seat(person);
        now.setSeat(person, now.seat(other));
        now.setSeat(other, seat);
        return now.seat(person);
    }

    public int undo() {
        if (acts.count() == 0) {
            return LATE;
        }
        return acts.takeBack(now);
    }

    // ---- who hears, who knows

    public int hearers(int person, int voice) {
        int refusal = refusalToSay(person, 0, voice);
        return refusal != ALLOWED ? refusal : now.ears(person, voice);
    }

    public int safe(int person, int voice) {
        int refusal = refusalToSay(person, 0, voice);
        if (refusal != ALLOWED) {
            return refusal;
        }
        int ears = now.ears(person, voice);
        int risky = 0;
        for (int hearer = 0; hearer < table.people(); hearer++) {
            if (contains(ears, hearer)) {
                risky |= now.known(hearer);
            }
        }
        return ALL_FACTS & ~risky;
    }

    public int seating(int person, int fact, int voice, boolean most, boolean figures) {
        int refusal = refusalToSay(person, fact, voice);
        if (refusal != ALLOWED) {
            return refusal;
        }
        draft.become(now);
        int knowers = now.knowers(fact);
        int orders = factorial(table.people() - 1);
        int best = NONE;
        int bestFigures = NONE;
        for (int order = 0; order < orders; order++) {
            draft.sitInOrder(order);
            int count = Integer.bitCount(draft.ears(person, voice) & knowers);
            if (best == NONE || (most ? count > best : count < best)) {
                best = count;
                bestFigures = draft.seatFigures();
            }
        }
        return figures ? bestFigures : best;
    }

    public int keepFrom(int person, int fact) {
        if (!isPerson(person) || !isFact(fact)) {
            return UNKNOWN;
        }
        int told = now.told(person);
        int best = NONE;
        for (int set = 0; set <= ALL_FACTS; set++) {
            boolean works = (set & ~told) == 0 && !contains(table.closure(told & ~set), fact);
            if (works && isSmaller(set, best)) {
                best = set;
            }
        }
        return best;
    }

    public int learn(int person, int fact) {
        if (!isPerson(person) || !isFact(fact)) {
            return UNKNOWN;
        }
        int told = now.told(person);
        int best = NONE;
        for (int set = 0; set <= ALL_FACTS; set++) {
            boolean works = !contains(set, fact) && contains(table.closure(told | set), fact);
            if (works && isSmaller(set, best)) {
                best = set;
            }
        }
        return best;
    }

    public int judge(int n, int row) {
        if (n < 1 || n > 3 || row < 0 || row >= thousands(n)) {
            return BAD;
        }
        draft.become(now);
        for (int thing = 0; thing < n; thing++) {
            int scale = Math.max(thousands(n - 1 - thing), 1);
            int figures = row / scale % 1000;
            if (!isPutRight(figures / 100 - 1, figures / 10 % 10 - 1, figures % 10)) {
                return thing;
            }
        }
        return NONE;
    }

    public int share(int person, boolean upper) {
        if (!isPerson(person)) {
            return UNKNOWN;
        }
        int people = table.people();
        int gains = 0;
        for (int company = 0; company < 1 << people; company++) {
            if (!contains(company, person)) {
                int size = Integer.bitCount(company);
                int orders = factorial(size) * factorial(people - 1 - size);
                gains += orders * (factsTogether(company | 1 << person) - factsTogether(company));
            }
        }
        return lowestTerm(gains, factorial(people), upper);
    }

    // ---- minds

    public int see(int fact, int spoke) {
        if (!isFact(fact)) {
            return UNKNOWN;
        }
        if (spoke < 0 || spoke > 1) {
            return BAD;
        }
        return seen.add(fact, spoke == 1);
    }

    public int unsee() {
        return seen.clear();
    }

    public int minds(int what) {
        if (what < 0 || what > 2) {
            return BAD;
        }
        int count = 0;
        int byAll = ALL_FACTS;
        int bySome = 0;
        for (int told = 0; told <= ALL_FACTS; told++) {
            int known = table.closure(told);
            if (seen.allows(known)) {
                count++;
                byAll &= known;
                bySome |= known;
            }
        }
        if (what == 0) {
            return count;
        }
        if (count == 0) {
            return NONE;
        }
        return what == 1 ? byAll : ALL_FACTS & ~bySome;
    }

    // ---- rests, chances

    public int rests(int what) {
        if (what < 0 || what > 1) {
            return BAD;
        }
        int count = 0;
        int first = NONE;
        for (int one = 0; one <= LONGEST_WAIT; one++) {
            for (int other = 0; other <= LONGEST_WAIT; other++) {
                if (isBestWait(one, other) && isBestWait(other, one)) {
                    first = count == 0 ? 10 * one + other : first;
                    count++;
                }
            }
        }
        return what == 0 ? count : first;
    }

    public int deaf(int person, int fact, int voice, int x, boolean upper) {
        int refusal = refusalToSay(person, fact, voice);
        if (refusal != ALLOWED) {
            return refusal;
        }
        if (x < 0 || x > 10) {
            return BAD;
        }
        int knowing = Integer.bitCount(now.ears(person, voice) & now.knowers(fact));
        return lowestTerm(power(x, knowing), power(10, knowing), upper);
    }

    public long seed(long v) {
        long was = chance;
        chance = v;
        return was;
    }

    public int evenings(int m) {
        if (m < 1 || m > MOST_EVENINGS) {
            return BAD;
        }
        draft.become(now);
        for (int evening = 0; evening < m; evening++) {
            chance = chance * MULTIPLIER + INCREMENT;
            int drawn = (int) (chance >>> 33) % 60;
            int person = drawn / 12;
            int voice = drawn % 12 < FACTS ? 1 : 2;
            if (isPerson(person)) {
                draft.lie(person, drawn % FACTS, voice);
            }
        }
        return draft.allFines() - now.allFines();
    }

    // ---- slots

    public int keep(int slot) {
        if (!isSlot(slot)) {
            return UNKNOWN;
        }
        slots.store(slot, now);
        filledSlots |= 1 << slot;
        return now.allFines();
    }

    public int again(int slot) {
        if (!isSlot(slot)) {
            return UNKNOWN;
        }
        if (!contains(filledSlots, slot)) {
            return LATE;
        }
        slots.fetch(slot, now);
        acts.clear();
        return now.allFines();
    }

    // ---- what may be asked

    private boolean isPerson(int person) {
        return person >= 0 && person < table.people();
    }

    private static boolean isFact(int fact) {
        return fact >= 0 && fact < FACTS;
    }

    private static boolean isVoice(int voice) {
        return voice >= 1 && voice <= LOUDEST;
    }

    private static boolean isSlot(int slot) {
        return slot >= 0 && slot < SLOTS;
    }

    private int refusalToSay(int person, int fact, int voice) {
        if (!isPerson(person) || !isFact(fact)) {
            return UNKNOWN;
        }
        return isVoice(voice) ? ALLOWED : BAD;
    }

    // ---- parts of the answers

    private void admit(int part) {
        int person = table.addPerson(text.digit(part + 1));
        now.setTold(person, text.letter(part + 2) | text.letter(part + 3) << 3);
        now.setSeat(person, person);
    }

    /** Says it in the draft, so that the next thing is judged behind this one. */
    private boolean isPutRight(int person, int fact, int voice) {
        return refusalToSay(person, fact, voice) == ALLOWED && draft.lie(person, fact, voice) != NONE;
    }

    private int factsTogether(int company) {
        int told = 0;
        for (int member = 0; member < table.people(); member++) {
            if (contains(company, member)) {
                told |= now.told(member);
            }
        }
        return Integer.bitCount(table.closure(told));
    }

    private static boolean isBestWait(int own, int others) {
        for (int wait = 0; wait <= LONGEST_WAIT; wait++) {
            if (waitCost(wait, others) < waitCost(own, others)) {
                return false;
            }
        }
        return true;
    }

    private static int waitCost(int own, int others) {
        if (own == LONGEST_WAIT && others == LONGEST_WAIT) {
            return BOTH_SILENT_COST;
        }
        return Math.min(own, others) + (own <= others ? SPEAKER_COST : LISTENER_COST);
    }

    // ---- sets and numbers

    private static boolean contains(int set, int member) {
        return (set >> member & 1) == 1;
    }

    /** Of like sizes the one found first stays: sets are tried upwards, and the least is wanted. */
    private static boolean isSmaller(int set, int best) {
        return best == NONE || Integer.bitCount(set) < Integer.bitCount(best);
    }

    private static int factorial(int n) {
        int product = 1;
        for (int factor = 2; factor <= n; factor++) {
            product *= factor;
        }
        return product;
    }

    private static int power(int base, int exponent) {
        int product = 1;
        for (int times = 0; times < exponent; times++) {
            product *= base;
        }
        return product;
    }

    private static int thousands(int n) {
        return power(1000, n);
    }

    private static int lowestTerm(int upper, int lower, boolean wantsUpper) {
        int divisor = Math.max(commonDivisor(upper, lower), 1);
        return (wantsUpper ? upper : lower) / divisor;
    }

    private static int commonDivisor(int a, int b) {
        int large = a;
        int small = b;
        for (int step = 0; step < 64 && small != 0; step++) {
            int rest = large % small;
            large = small;
            small = rest;
        }
        return large;
    }

    /** Numbers in a row that can not be read or written beyond its ends. */
    private static final class Row {
        private final int[] cells;

        Row(int size) {
            cells = new int[Math.max(size, 0)];
        }

        int at(int place) {
            return place >= 0 && place < cells.length ? cells[place] : 0;
        }

        void put(int place, int value) {
            if (place >= 0 && place < cells.length) {
                cells[place] = value;
            }
        }

        void fill(int value) {
            for (int place = 0; place < cells.length; place++) {
                cells[place] = value;
            }
        }

        void copy(int to, Row source, int from, int count) {
            for (int i = 0; i < count; i++) {
                put(to + i, source.at(from + i));
            }
        }
    }

    /** The text, and by which byte it fails to be a table. */
    private static final class Text {
        private final Row bytes = new Row(MOST_BYTES);
        private int length;

        int length() {
            return length;
        }

        int at(int place) {
            return bytes.at(place);
        }

        int digit(int place) {
            return bytes.at(place) - '0';
        }

        int letter(int place) {
            return bytes.at(place) - 'a';
        }

        int append(int letter) {
            if (length >= MOST_BYTES) {
                return FULL;
            }
            bytes.put(length, letter);
            length++;
            return length;
        }

        int clear() {
            int was = length;
            length = 0;
            return was;
        }

        int firstFault() {
            for (int place = 0; place < length; place++) {
                if (!fits(place)) {
                    return place;
                }
            }
            boolean ended = length > 0 && (length - 1) % PART_BYTES == 0;
            return ended ? NONE : length;
        }

        /** Whether the byte may stand there, if all those ahead of it may. */
        private boolean fits(int place) {
            if (place == 0) {
                return at(0) == 'K';
            }
            int offset = (place - 1) % PART_BYTES;
            if (offset == 0) {
                return startsPart(place);
            }
            if (at(place - offset) == 'R') {
                return isBetween(digit(place), FACTS - 1);
            }
            return offset == 1 ? isBetween(digit(place), LICENSED) : isBetween(letter(place), 7);
        }

        private boolean startsPart(int place) {
            if (at(place) == 'P') {
                return partsAhead(place, 'P') < MOST_PEOPLE;
            }
            return at(place) == 'R' && partsAhead(place, 'R') < MOST_RULES;
        }

        private int partsAhead(int place, int sort) {
            int count = 0;
            for (int part = 1; part < place; part += PART_BYTES) {
                if (at(part) == sort) {
                    count++;
                }
            }
            return count;
        }

        private static boolean isBetween(int value, int most) {
            return value >= 0 && value <= most;
        }
    }

    /** What no act changes: of which kind people are, and the rules. */
    private static final class Table {
        private final Row kinds = new Row(MOST_PEOPLE);
        private final Row needs = new Row(MOST_RULES);
        private final Row gives = new Row(MOST_RULES);
        private int people;
        private int rules;

        int people() {
            return people;
        }

        int rules() {
            return rules;
        }

        int kind(int person) {
            return kinds.at(person);
        }

        void clear() {
            people = 0;
            rules = 0;
        }

        int addPerson(int kind) {
            int person = people;
            if (people < MOST_PEOPLE) {
                kinds.put(person, kind);
                people++;
            }
            return person;
        }

        void addRule(int one, int other, int result) {
            if (rules < MOST_RULES) {
                needs.put(rules, 1 << one | 1 << other);
                gives.put(rules, 1 << result);
                rules++;
            }
        }

        /** As many passes as rules are enough: a pass in which no rule gives anything is the last one needed. */
        int closure(int told) {
            int known = told;
            for (int pass = 0; pass < rules; pass++) {
                for (int rule = 0; rule < rules; rule++) {
                    int needed = needs.at(rule);
                    if ((known & needed) == needed) {
                        known |= gives.at(rule);
                    }
                }
            }
            return known;
        }
    }

    /** What acts change, in one row, so that it is copied at once: what people were told, seats, fines. */
    private static final class Round {
        private static final int TOLD = 0, SEAT = MOST_PEOPLE, FINES = 2 * MOST_PEOPLE, WIDTH = 3 * MOST_PEOPLE;

        private final Table table;
        private final Row cells = new Row(WIDTH);

        Round(Table table) {
            this.table = table;
        }

        int told(int person) {
            return cells.at(TOLD + person);
        }

        void setTold(int person, int facts) {
            cells.put(TOLD + person, facts);
        }

        int seat(int person) {
            return cells.at(SEAT + person);
        }

        void setSeat(int person, int seat) {
            cells.put(SEAT + person, seat);
        }

        int fines(int person) {
            return cells.at(FINES + person);
        }

        private void fine(int person, int more) {
            cells.put(FINES + person, fines(person) + more);
        }

        void clear() {
            cells.fill(0);
        }

        void become(Round other) {
            cells.copy(0, other.cells, 0, WIDTH);
        }

        int known(int person) {
            return table.closure(told(person));
        }

        int knownBySomebody() {
            int facts = 0;
            for (int person = 0; person < table.people(); person++) {
                facts |= known(person);
            }
            return facts;
        }

        int allFines() {
            int sum = 0;
            for (int person = 0; person < table.people(); person++) {
                sum += fines(person);
            }
            return sum;
        }

        int knowers(int fact) {
            int set = 0;
            for (int person = 0; person < table.people(); person++) {
                if (contains(known(person), fact)) {
                    set |= 1 << person;
                }
            }
            return set;
        }

        int distance(int person, int other) {
            int seats = Math.abs(seat(person) - seat(other));
            return Math.min(seats, table.people() - seats);
        }

        int ears(int speaker, int voice) {
            int set = 0;
            for (int person = 0; person < table.people(); person++) {
                int reach = table.kind(person) == WOOL ? 1 : voice;
                if (person != speaker && distance(person, speaker) <= reach) {
                    set |= 1 << person;
                }
            }
            return set;
        }

        /** Who puts it right, or NONE. */
        int lie(int speaker, int fact, int voice) {
            int hearing = ears(speaker, voice);
            int knowing = hearing & knowers(fact);
            int corrector = firstBold(speaker, knowing);
            if (corrector == NONE) {
                fineEach(knowing);
                return NONE;
            }
            tellEach(hearing, fact);
            if (table.kind(speaker) != LICENSED) {
                fine(speaker, LIAR_FINE);
            }
            return corrector;
        }

        private int firstBold(int speaker, int candidates) {
            int people = table.people();
            for (int step = 1; step < people; step++) {
                int person = sitter((seat(speaker) + step) % people);
                if (contains(candidates, person) && table.kind(person) != SHY) {
                    return person;
                }
            }
            return NONE;
        }

        private int sitter(int seat) {
            for (int person = 0; person < table.people(); person++) {
                if (seat(person) == seat) {
                    return person;
                }
            }
            return 0;
        }

        private void fineEach(int silent) {
            int count = Integer.bitCount(silent);
            for (int person = 0; person < table.people(); person++) {
                if (count > 0 && contains(silent, person)) {
                    fine(person, SILENCE_FINE / count);
                }
            }
        }

        private void tellEach(int hearing, int fact) {
            for (int person = 0; person < table.people(); person++) {
                if (contains(hearing, person)) {
                    setTold(person, told(person) | 1 << fact);
                }
            }
        }

        /**
         * Seats all but person 0 anew; the orders (from 0) run as the figures of the seats do,
         * so that the first of like ones is the least.
         */
        void sitInOrder(int order) {
            int people = table.people();
            int waiting = (1 << people) - 2;
            int ways = factorial(people - 1);
            int rest = order;
            int kept = seat(0);
            for (int seat = 0; seat < people; seat++) {
                if (seat != kept) {
                    ways /= Math.max(Integer.bitCount(waiting), 1);
                    int person = member(waiting, rest / Math.max(ways, 1));
                    rest %= Math.max(ways, 1);
                    setSeat(person, seat);
                    waiting &= ~(1 << person);
                }
            }
        }

        private int member(int set, int number) {
            int left = number;
            for (int person = 0; person < table.people(); person++) {
                if (contains(set, person)) {
                    if (left == 0) {
                        return person;
                    }
                    left--;
                }
            }
            return 0;
        }

        int seatFigures() {
            int figures = 0;
            for (int seat = 0; seat < table.people(); seat++) {
                figures = 10 * figures + sitter(seat) + 1;
            }
            return figures;
        }
    }

    /** Rounds as they were, each on a place of its own. */
    private static final class Shelf {
        private final Row cells;

        Shelf(int places) {
            cells = new Row(places * Round.WIDTH);
        }

        void store(int place, Round round) {
            cells.copy(place * Round.WIDTH, round.cells, 0, Round.WIDTH);
        }

        void fetch(int place, Round round) {
            round.cells.copy(0, cells, place * Round.WIDTH, Round.WIDTH);
        }
    }

    /** The rounds ahead of the last acts; the places go in a ring, so that the first is forgotten. */
    private static final class Acts {
        private final Shelf shelf = new Shelf(MOST_ACTS);
        private int count;
        private int next;

        int count() {
            return count;
        }

        void clear() {
            count = 0;
        }

        void remember(Round round) {
            shelf.store(next, round);
            next = (next + 1) % MOST_ACTS;
            count = Math.min(count + 1, MOST_ACTS);
        }

        int takeBack(Round round) {
            if (count > 0) {
                next = (next + MOST_ACTS - 1) % MOST_ACTS;
                count--;
                shelf.fetch(next, round);
            }
            return count;
        }
    }

    /** When somebody spoke up and when not; the facts are enough, since no answer asks for their order. */
    private static final class Seen {
        private int count;
        private int spokenUp;
        private int passedOver;

        int count() {
            return count;
        }

        int add(int fact, boolean spoke) {
            if (count >= MOST_SEEN) {
                return FULL;
            }
            if (spoke) {
                spokenUp |= 1 << fact;
            } else {
                passedOver |= 1 << fact;
            }
            count++;
            return count;
        }

        int clear() {
            int was = count;
            count = 0;
            spokenUp = 0;
            passedOver = 0;
            return was;
        }

        boolean allows(int known) {
            return (known & spokenUp) == spokenUp && (known & passedOver) == 0;
        }
    }
}
