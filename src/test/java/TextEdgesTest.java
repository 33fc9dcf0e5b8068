/** The boundaries of promises 1 to 4 and of what "Terms" say of THE TEXT and of FAULT. */
public final class TextEdgesTest {
    private static final Checks CHECKS = new Checks();
    private static final String FIVE = "P0aaP0aaP0aaP0aaP0aa";
    private static final String FOUR_RULES = "R000R000R000R000";

    public static void main(String[] args) throws ReflectiveOperationException {
        CHECKS.run(TextEdgesTest.class);
        CHECKS.end("TextEdgesTest");
    }

    private static KnowsBetter filled(int bytes) {
        KnowsBetter made = new KnowsBetter();
        for (int i = 0; i < bytes; i++) {
            made.write('K');
        }
        return made;
    }

    private static void fault(String text, int want) {
        CHECKS.due("fault() of " + text, Checks.written(text).fault(), want);
    }

    // ---- promise 1

    @Says("Promise 1: Nobody.")
    static void newObjectHasNobody() {
        KnowsBetter made = new KnowsBetter();
        CHECKS.due("people", made.about(0), 0);
        CHECKS.due("facts that somebody knows", made.about(3), 0);
        CHECKS.due("fines of all", made.about(2), 0);
        for (int what = -1; what <= 5; what++) {
            CHECKS.due("person(0, " + what + ")", made.person(0, what), -1);
        }
        CHECKS.due("far(0, 0)", made.far(0, 0), -1);
        CHECKS.due("share(0, true)", made.share(0, true), -1);
    }

    @Says("Terms 1: At first there is nobody, there are no RULES.")
    static void newObjectHasNoRules() {
        KnowsBetter made = new KnowsBetter();
        CHECKS.due("rules", made.about(1), 0);
        for (int fact = 0; fact < 6; fact++) {
            made.unsee();
            made.see(fact, 1);
            CHECKS.due("only who was told knows " + fact, made.minds(0), 32);
            CHECKS.due("and nothing else by it", made.minds(1), 1 << fact);
        }
    }

    @Says(value = "Promise 1: Nobody.", by = "no ACTS, nothing kept, an empty TEXT")
    static void newObjectHasNothingElse() {
        KnowsBetter made = new KnowsBetter();
        CHECKS.due("acts", made.about(4), 0);
        CHECKS.due("undo()", made.undo(), -3);
        CHECKS.due("again(0)", made.again(0), -3);
        CHECKS.due("again(1)", made.again(1), -3);
        CHECKS.due("bytes", made.about(6), 0);
        CHECKS.due("wipe()", made.wipe(), 0);
    }

    // ---- promise 2

    @Says("Promise 2: A byte (0 .. 255) comes behind THE TEXT: how long it is. BAD")
    static void byteFrom0To255() {
        KnowsBetter made = new KnowsBetter();
        CHECKS.due("write(-1)", made.write(-1), -2);
        CHECKS.due("write(0)", made.write(0), 1);
        CHECKS.due("write(255)", made.write(255), 2);
        CHECKS.due("write(256)", made.write(256), -2);
        CHECKS.due("write(the most)", made.write(Integer.MAX_VALUE), -2);
        CHECKS.due("write(the least)", made.write(Integer.MIN_VALUE), -2);
        CHECKS.due("write(a byte and 256)", made.write('K' + 256), -2);
        CHECKS.due("write(a byte less 256)", made.write('K' - 256), -2);
        CHECKS.due("bytes", made.about(6), 2);
    }

    @Says(value = "Promise 2: A byte (0 .. 255) comes behind THE TEXT", by = "each of the 256")
    static void eachByteIsTaken() {
        for (int first = 0; first < 256; first += 32) {
            KnowsBetter made = new KnowsBetter();
            for (int i = 0; i < 32; i++) {
                CHECKS.due("write(" + (first + i) + ")", made.write(first + i), i + 1);
            }
        }
    }

    @Says("Promise 2: FULL: there are 40.")
    static void fullAtForty() {
        KnowsBetter made = filled(38);
        CHECKS.due("the 39th byte", made.write('x'), 39);
        CHECKS.due("the 40th byte", made.write('x'), 40);
        CHECKS.due("the 41st byte", made.write('x'), -4);
        CHECKS.due("the 41st byte again", made.write(0), -4);
        CHECKS.due("bytes", made.about(6), 40);
    }

    @Says("Terms 1: THE TEXT is bytes (40 at most).")
    static void fortyBytesAreWipedAndWritten() {
        KnowsBetter made = filled(40);
        CHECKS.due("wipe()", made.wipe(), 40);
        CHECKS.due("write behind it", made.write('K'), 1);
        CHECKS.due("nothing of the forty is left", made.fault(), -9);
    }

    @Says(value = "Terms 4: Of several what is told first.", by = "write: BAD ahead of FULL")
    static void badAheadOfFull() {
        KnowsBetter made = filled(40);
        CHECKS.due("write(256)", made.write(256), -2);
        CHECKS.due("write(-1)", made.write(-1), -2);
        CHECKS.due("write(255)", made.write(255), -4);
        CHECKS.due("write(0)", made.write(0), -4);
    }

    // ---- promise 3

    @Says("Promise 3: THE TEXT is empty: how long it was.")
    static void wipeOfEachLength() {
        for (int length = 0; length <= 40; length++) {
            KnowsBetter made = filled(length);
            CHECKS.due("wipe() of " + length, made.wipe(), length);
            CHECKS.due("bytes", made.about(6), 0);
            CHECKS.due("wipe() again", made.wipe(), 0);
        }
    }

    // ---- promise 4

    @Says(value = "Promise 4: FAULT; NONE.", by = "from no byte to forty, and one more")
    static void faultAsItIsWritten() {
        String text = "K" + FIVE + FOUR_RULES + "R00";
        KnowsBetter made = new KnowsBetter();
        CHECKS.due("no byte", made.fault(), 0);
        for (int length = 1; length <= 40; length++) {
            made.write(text.charAt(length - 1));
            int due = length > 37 ? 37 : length % 4 == 1 ? -9 : length;
            CHECKS.due(length + " bytes", made.fault(), due);
        }
        CHECKS.due("one more", made.write('0'), -4);
        CHECKS.due("fault", made.fault(), 37);
        made.wipe();
        CHECKS.due("no byte again", made.fault(), 0);
    }

    @Says("Terms 1: its length, if it is only not at its end")
    static void eachStartOfATable() {
        String text = "KP0aaP3hhR000P1ahR555P2haR050R505P0cd";
        for (int length = 0; length <= text.length(); length++) {
            boolean ended = length % 4 == 1;
            fault(text.substring(0, length), ended ? -9 : length);
        }
    }

    @Says("Terms 1: A TABLE is a TEXT: K, then PARTS, none or more")
    static void noPartsAndAsManyAsThereAre() {
        fault("", 0);
        fault("K", -9);
        fault("K" + FIVE + FOUR_RULES, -9);
        CHECKS.due("table() of K", Checks.written("K").table(), 0);
        CHECKS.due("table() of the empty text", Checks.written("").table(), -3);
        fault("P0aa", 0);
        fault("KK", 1);
    }

    @Says("Terms 1: the place (from 0) of the first byte by which THE TEXT can be no TABLE, whatever came behind it")
    static void firstFaultOfSeveral() {
        String text = "KP0aaR012P3hh";
        for (int place = 0; place < text.length(); place++) {
            String start = text.substring(0, place) + "~";
            fault(start, place);
            fault(start + text.substring(place + 1), place);
            fault(start + "~~~", place);
            fault(start + "KP0aaP0aa", place);
        }
    }

    @Says(value = {
        "Terms 1: A TABLE is a TEXT: K, then PARTS",
        "Terms 1: Pkxy a PERSON",
        "Terms 1: Rijk a RULE"},
        by = "each byte at each place")
    static void eachByteAtEachPlace() {
        eachByte("", "K");
        eachByte("K", "PR");
        eachByte("KP0aa", "PR");
        eachByte("KR012", "PR");
        eachByte("KP", "0123");
        eachByte("KP0", "abcdefgh");
        eachByte("KP0a", "abcdefgh");
        eachByte("KR", "012345");
        eachByte("KR0", "012345");
        eachByte("KR01", "012345");
        eachByte("KP0aaP0aaP0aaP0aaP0a", "abcdefgh");
        eachByte("KR000R000R000R00", "012345");
    }

    private static void eachByte(String start, String fitting) {
        for (int letter = 0; letter < 256; letter++) {
            KnowsBetter made = Checks.written(start);
            made.write(letter);
            boolean fits = fitting.indexOf(letter) >= 0;
            boolean ends = start.length() % 4 == 0;
            int length = start.length() + 1;
            CHECKS.due(letter + " behind " + start, made.fault(), !fits ? start.length() : ends ? -9 : length);
        }
    }

    @Says("Terms 1: a PERSON of KIND k (0 PLAIN, 1 WOOL, 2 SHY, 3 LICENSED)")
    static void kindFrom0To3() {
        fault("KP/aa", 2);
        fault("KP4aa", 2);
        KnowsBetter made = Checks.table("KP0aaP3aa");
        CHECKS.due("the first kind", made.person(0, 0), 0);
        CHECKS.due("the last kind", made.person(1, 0), 3);
    }

    @Says("Terms 1: x, y (a .. h each: a is 0, b 1, .. h 7; as bits: x of FACTS 0 .. 2, y of 3 .. 5)")
    static void letterFromAToH() {
        fault("KP0`a", 3);
        fault("KP0ia", 3);
        fault("KP0a`", 4);
        fault("KP0ai", 4);
        for (int x = 0; x < 8; x++) {
            KnowsBetter made = Checks.table("KP0" + (char) ('a' + x) + "aP0a" + (char) ('a' + x));
            CHECKS.due("x " + x, made.person(0, 1), x);
            CHECKS.due("y " + x, made.person(1, 1), 8 * x);
        }
        CHECKS.due("all facts", Checks.table("KP0hh").person(0, 1), 63);
        CHECKS.due("no facts", Checks.table("KP0aa").person(0, 1), 0);
    }

    @Says("Terms 1: a RULE: who knows FACTS i and j knows k, too (0 .. 5 each")
    static void ruleOfFacts0To5() {
        fault("KR/00", 2);
        fault("KR600", 2);
        fault("KR0/0", 3);
        fault("KR060", 3);
        fault("KR00/", 4);
        fault("KR006", 4);
        CHECKS.due("the last facts", Checks.table("KP0adR345").person(0, 2), 8 | 16 | 32);
        CHECKS.due("the first facts", Checks.table("KP0agR540").person(0, 2), 16 | 32 | 1);
    }

    @Says("Terms 1: PEOPLE 0, 1, .. (5 at most)")
    static void fivePeople() {
        fault("K" + FIVE, -9);
        fault("K" + FIVE + "P", 21);
        fault("K" + FIVE + "P0aa", 21);
        fault("KR000P0aaP0aaR000P0aaP0aaR000P0aaP0aa", 33);
        fault("KR000P0aaP0aaR000P0aaP0aaR000P0aaR000", -9);
        CHECKS.due("table() of five", Checks.written("K" + FIVE).table(), 50);
        CHECKS.due("table() of six", Checks.written("K" + FIVE + "P0aa").table(), -3);
    }

    @Says("Terms 1: 4 RULES at most")
    static void fourRules() {
        fault("K" + FOUR_RULES, -9);
        fault("K" + FOUR_RULES + "R", 17);
        fault("K" + FOUR_RULES + "R000", 17);
        fault("KP0aaR000P0aaR000P0aaR000P0aaR000R", 33);
        CHECKS.due("table() of four", Checks.written("K" + FOUR_RULES).table(), 4);
        CHECKS.due("table() of five", Checks.written("K" + FOUR_RULES + "R000").table(), -3);
    }

    @Says(value = "Terms 1: (its length set aside)", by = "the longest table, and one of 40 bytes")
    static void longestTableAndLongestText() {
        String longest = "K" + FIVE + FOUR_RULES;
        fault(longest, -9);
        fault(longest + "P", 37);
        fault(longest + "R", 37);
        fault(longest + "P0a", 37);
        fault(longest.substring(0, 36), 36);
        KnowsBetter full = filled(40);
        CHECKS.due("forty bytes", full.fault(), 1);
        full.write('K');
        CHECKS.due("and one that was refused", full.fault(), 1);
    }

    @Says("Terms 1: K, then PARTS, none or more, numbered as they are told, each kind for itself")
    static void peopleAndRulesMixed() {
        KnowsBetter made = Checks.table("KR012P1baR233P2cbP3aa");
        CHECKS.due("kind of 0", made.person(0, 0), 1);
        CHECKS.due("kind of 1", made.person(1, 0), 2);
        CHECKS.due("kind of 2", made.person(2, 0), 3);
        CHECKS.due("told to 1", made.person(1, 1), 2 | 8);
        CHECKS.due("people", made.about(0), 3);
        CHECKS.due("rules", made.about(1), 2);
    }
}
