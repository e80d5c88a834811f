import java.util.Set;
import java.util.function.Consumer;

/** Promises 18 to 23 at their edges: the last number that is allowed, the first that isn't, each refusal. */
public final class MenuEdgesTest {
    private static final Due DUE = new Due("MenuEdgesTest");
    private static final Twins TWINS = new Twins(DUE);
    private static final int NUMBER = TriggerHall.NUMBER;
    private static final int FULL = TriggerHall.FULL;
    private static final int FAULT = TriggerHall.FAULT;
    private static final int LEAST = Integer.MIN_VALUE;
    private static final int GREATEST = Integer.MAX_VALUE;
    private static final String LONGEST = "t1|".repeat(19) + "t11";
    private static final int[] ONE_TO_FOUR = {0x61, 0x6161, 0x616161, 0x61616161};

    public static void main(String[] args) {
        feedUpToTheFirstNought();
        feedEveryLetter();
        feedUpToSixty();
        feedRefusals();
        clearEmptiesTheTape();
        lineShares();
        linesAtMost();
        lineRefusals();
        lineFirstRefusal();
        faultOfALetterThatCantBe();
        faultOfAnEndTooSoon();
        faultOfFigures();
        faultOfOneMoreOpen();
        openUntilItEnds();
        textsOfSixty();
        thinShares();
        thinRefusals();
        holdsAtTheNumber();
        holdsAtTheGreatestNumbers();
        holdsOfRoads();
        holdsOfAnyAndBoth();
        holdsOfAnotherLook();
        holdsRefusals();
        countsAreMultiples();
        ofTheOnlyKeep();
        ofLetters();
        ofRefusals();
        DUE.end();
    }

    private static void feedUpToTheFirstNought() {
        int[] fed = {0, 0x61, 0x6161, 0x616161, 0x61616161, 0x61616100, 0x61610061, 0x61006161, 0x00616161, 0x61000061};
        int[] wants = {0, 1, 2, 3, 4, 0, 1, 2, 3, 1};
        for (int n = 0; n < fed.length; n++) {
            TriggerHall hall = new TriggerHall();
            DUE.is("18: feed(" + fed[n] + ")", hall.feed(fed[n]), wants[n]);
            DUE.is("18: so many it has", hall.clear(), wants[n]);
        }
        TriggerHall hall = new TriggerHall();
        hall.feed('h' | '1' << 8 | '2' << 16 | 'x' << 24);
        DUE.is("18: the lowest byte first, the highest last", hall.line(1, false), FAULT - 3);
    }

    private static void feedEveryLetter() {
        for (int letter = 1; letter < 256; letter++) {
            for (int n = 0; n < 4; n++) {
                TriggerHall hall = new TriggerHall();
                int others = 0x01010101 & (1 << 8 * n) - 1;
                DUE.is("18: letter " + letter + " at " + n, hall.feed(others | letter << 8 * n), n + 1);
            }
        }
    }

    private static TriggerHall withTape(int letters) {
        TriggerHall hall = new TriggerHall();
        Hall.feed(hall, "x".repeat(letters));
        return hall;
    }

    private static void feedUpToSixty() {
        for (int had = 0; had <= 60; had++) {
            for (int more = 0; more <= 4; more++) {
                TriggerHall hall = withTape(had);
                int v = more == 0 ? 0 : ONE_TO_FOUR[more - 1];
                boolean fits = had + more <= 60;
                DUE.is("18: " + more + " more than " + had, hall.feed(v), fits ? had + more : FULL);
                DUE.is("18: so many then", hall.clear(), fits ? had + more : had);
            }
        }
    }

    private static void feedRefusals() {
        for (int had = 57; had <= 60; had++) {
            int letters = had;
            Consumer<TriggerHall> made = hall -> Hall.feed(hall, LONGEST.substring(0, letters));
            for (int v : ONE_TO_FOUR) {
                if (had + Integer.bitCount(v) / 3 <= 60) continue;
                TWINS.leavesAll(made, "18: " + v + " behind " + had, FULL, hall -> hall.feed(v));
            }
        }
        TWINS.leavesAll(States::nearlyFull, "18: two behind 59", FULL, hall -> hall.feed(0x6161));
        TWINS.leavesAll(States::full, "18: one behind 60", FULL, hall -> hall.feed(0xFF));
    }

    private static void clearEmptiesTheTape() {
        for (int had : new int[] {0, 1, 59, 60}) {
            TriggerHall hall = withTape(had);
            DUE.is("19: it had " + had, hall.clear(), had);
            DUE.is("19: it is empty", hall.clear(), 0);
            DUE.is("19: an empty one has its fault at 0", hall.line(1, false), FAULT);
            DUE.is("19: there is room for 60 again", Hall.feed(hall, LONGEST), 60);
            DUE.is("19: nothing of before is left", hall.line(1, false), 0);
        }
    }

    private static void lineShares() {
        for (int share : new int[] {LEAST, -1, 0, 1, 2, 99, 100, 101, GREATEST}) {
            boolean right = share >= 1 && share <= 100;
            for (boolean bar : new boolean[] {false, true}) {
                TriggerHall hall = new TriggerHall();
                Hall.feed(hall, "h1");
                DUE.is("20: share " + share, hall.line(share, bar), right ? 0 : NUMBER);
                DUE.is("20: the tape then", hall.feed(0), right ? 0 : 2);
                DUE.is("20: its share", hall.of(0, 0), right ? share : NUMBER);
                DUE.is("20: a bar or a keep", hall.of(0, 1), right ? bar ? 1 : 0 : NUMBER);
                DUE.is("20: its count", hall.of(0, 2), right ? 0 : NUMBER);
            }
        }
    }

    private static void linesAtMost() {
        TriggerHall hall = new TriggerHall();
        for (int n = 0; n < 8; n++) {
            DUE.is("20: line " + n, Hall.keep(hall, "h" + n, n + 1), n);
            DUE.is("20: so many", hall.many(1), n + 1);
        }
        DUE.is("20: a ninth", Hall.keep(hall, "h8", 9), FULL);
        DUE.is("20: the tape stays", hall.clear(), 2);
        DUE.is("20: still eight", hall.many(1), 8);
        for (int n = 0; n < 8; n++) {
            DUE.is("20: the share of line " + n, hall.of(n, 0), n + 1);
            hall.hits(0, (1 << n) - 1);
            DUE.is("20: the text of line " + n, hall.holds(n), 1);
            DUE.is("20: the text of the next one", hall.holds(n + 1), n == 7 ? NUMBER : 0);
        }
    }

    private static void lineRefusals() {
        for (int none : new int[] {0, 101, -1, LEAST, GREATEST}) {
            TWINS.refused("20: share " + none, NUMBER, hall -> hall.line(none, false));
            TWINS.refused("20: a bar's share " + none, NUMBER, hall -> hall.line(none, true));
        }
        TWINS.leavesAll(hall -> { }, "20: an empty tape", FAULT, hall -> hall.line(1, false));
        TWINS.leavesAll(States::nearlyFull, "20: a fault", FAULT - 58, hall -> hall.line(1, false));
        TWINS.leavesAll(States::full, "20: a ninth", FULL, hall -> hall.line(1, false));
        TWINS.leavesAll(States::full, "20: a ninth, a bar", FULL, hall -> hall.line(100, true));
        for (String text : new String[] {"x", "t", "t1&", "(t1", "t1)", "t1234", "!".repeat(20), "!".repeat(21) + "t1"}) {
            Consumer<TriggerHall> made = hall -> Hall.feed(hall, text);
            TWINS.leavesAll(made, "20: " + text, Hall.answerTo(text), hall -> hall.line(1, true));
        }
    }

    private static void lineFirstRefusal() {
        Consumer<TriggerHall> faulty = hall -> Hall.feed(hall, "x");
        TWINS.leavesAll(faulty, "20: share ahead of FAULT", NUMBER, hall -> hall.line(0, false));
        TWINS.leavesAll(States::nearlyFull, "20: share ahead of FAULT", NUMBER, hall -> hall.line(101, false));
        // the full hall's tape has a fault too
        TWINS.leavesAll(States::full, "20: share ahead of FULL and FAULT", NUMBER, hall -> hall.line(0, false));
        TWINS.leavesAll(States::full, "20: FULL ahead of FAULT", FULL, hall -> hall.line(1, false));
        Consumer<TriggerHall> empty = hall -> {
            States.full(hall);
            hall.clear();
        };
        TWINS.leavesAll(empty, "20: FULL ahead of an empty tape's FAULT", FULL, hall -> hall.line(1, false));
    }

    private static void fault(String text, int place) {
        DUE.is("20: " + text, Hall.answerTo(text), FAULT - place);
    }

    private static void right(String text) {
        DUE.is("20: " + text, Hall.answerTo(text), 0);
    }

    /** Ahead of each place all is right, so a letter of no text is the first that can't be there. */
    private static void faultOfALetterThatCantBe() {
        String text = "t1&!(h22|!w333)&((l0))|r12";
        right(text);
        for (int place = 0; place <= text.length(); place++) {
            for (int letter = 1; letter < 256; letter++) {
                if ("thwlr0123456789!()&|".indexOf(letter) >= 0) continue;
                fault(text.substring(0, place) + (char) letter + text.substring(place), place);
            }
        }
        String signs = "thwlr0!()&|";
        String[] after = {"", "t", "t1", "t11", "t111", "!", "(", "(t1", "(t1)", "t1&", "t1|"};
        String[] can = {"thwlr!(", "0", "0&|", "0&|", "&|", "thwlr!(", "thwlr!(", "0&|)", "&|", "thwlr!(", "thwlr!("};
        for (int n = 0; n < after.length; n++) {
            for (int s = 0; s < signs.length(); s++) {
                char sign = signs.charAt(s);
                // what stands behind is never there in a right text, so it is the fault if the sign isn't
                int place = can[n].indexOf(sign) < 0 ? after[n].length() : after[n].length() + 1;
                fault(after[n] + sign + "x", place);
            }
        }
    }

    private static void faultOfAnEndTooSoon() {
        String text = "t1&!(h22|!w333)&((l0))|r12";
        Set<Integer> complete = Set.of(2, 15, 22, 25, 26);
        for (int length = 0; length <= text.length(); length++) {
            String start = text.substring(0, length);
            if (complete.contains(length)) {
                right(start);
            } else {
                fault(start, length);
            }
        }
    }

    private static void faultOfFigures() {
        for (char letter : "thwlr".toCharArray()) {
            fault(letter + "", 1);
            right(letter + "0");
            right(letter + "09");
            right(letter + "999");
            fault(letter + "9990", 4);
            fault(letter + "0000", 4);
            fault(letter + "&t1", 1);
            fault(letter + "/", 1);
            fault(letter + ":", 1);
            fault("(" + letter + ")", 2);
        }
    }

    /** All mixes that change from one sign to the other once, on either side. */
    private static void faultOfOneMoreOpen() {
        for (int first = 0; first <= 20; first++) {
            String round = "(".repeat(first) + "!".repeat(20 - first);
            String sharp = "!".repeat(first) + "(".repeat(20 - first);
            right(round + "t1" + ")".repeat(first));
            right(sharp + "t1" + ")".repeat(20 - first));
            fault(round + "!t1" + ")".repeat(first), 20);
            fault(round + "(t1)" + ")".repeat(first), 20);
            fault(sharp + "!t1" + ")".repeat(20 - first), 20);
            fault(sharp + "(t1)" + ")".repeat(20 - first), 20);
            fault(round, 20);
            fault(sharp, 20);
        }
        fault("(".repeat(60), 20);
        fault("!".repeat(60), 20);
        fault("(".repeat(20) + "t1" + ")".repeat(21), 42);
        fault("(".repeat(20) + "t1" + ")".repeat(19), 41);
    }

    private static void openUntilItEnds() {
        String twenty = "!".repeat(20);
        right("(t1)&" + twenty + "t1");
        right("!t1&" + twenty + "t1");
        right("!(t1)|" + twenty + "t1");
        right("!!(!t1)|" + twenty + "t1");
        right(twenty + "t1|" + twenty + "t1");
        right(twenty + "t123&" + twenty + "t1");
        right("(t1&" + "!".repeat(19) + "t1)");
        fault("(t1&" + twenty + "t1)", 23);
        right("!(t1&" + "!".repeat(18) + "t1)");
        fault("!(t1&" + "!".repeat(19) + "t1)", 23);
        right("(!t1&" + "!".repeat(19) + "t1)");
        fault("(!t1&" + twenty + "t1)", 24);
        right("(".repeat(10) + "t1" + ")".repeat(5) + "|" + "(".repeat(15) + "t1" + ")".repeat(20));
        fault("(".repeat(10) + "t1" + ")".repeat(5) + "|" + "(".repeat(16) + "t1", 33);
    }

    private static void textsOfSixty() {
        right(LONGEST);
        fault("t1|".repeat(20), 60);
        fault("t1|".repeat(19) + "t1)", 59);
        fault("t1&".repeat(19) + "!!!", 60);
        fault("t1|".repeat(19) + "t1" + "t", 59);
        fault("x" + "t1|".repeat(19), 0);
        right("(".repeat(20) + "t1|t1|t1|t1|t1|t1|t1" + ")".repeat(20));
        fault("(".repeat(20) + "t1|t1|t1|t1|t1|t1|t11" + ")".repeat(19), 60);
    }

    private static void thinShares() {
        for (int line = 0; line < 8; line++) {
            TriggerHall hall = new TriggerHall();
            for (int n = 0; n < 8; n++) {
                Hall.keep(hall, "h0", 10 + n);
            }
            hall.fire();
            DUE.is("21: the least share", hall.thin(line, 1), 10 + line);
            DUE.is("21: the greatest share", hall.thin(line, 100), 1);
            for (int n = 0; n < 8; n++) {
                DUE.is("21: the share of " + n, hall.of(n, 0), n == line ? 100 : 10 + n);
                DUE.is("21: the count of " + n, hall.of(n, 2), 1);
            }
        }
        TriggerHall hall = new TriggerHall();
        Hall.keep(hall, "h0", 100);
        for (int n = 0; n < 3; n++) {
            hall.fire();
        }
        hall.thin(0, 3);
        DUE.is("21: a count that is a multiple already", hall.fire(), 0);
        hall.thin(0, 5);
        DUE.is("21: the next one is a multiple", hall.fire(), 1);
        hall.thin(0, 1);
        DUE.is("21: any is a multiple of 1", hall.fire(), 1);
    }

    private static void thinRefusals() {
        for (int none : new int[] {-1, 8, LEAST, GREATEST}) {
            TWINS.refused("21: line " + none, NUMBER, hall -> hall.thin(none, 1));
        }
        TWINS.leavesAll(hall -> { }, "21: there is no line", NUMBER, hall -> hall.thin(0, 1));
        TWINS.leavesAll(States::busy, "21: line 3 of 3", NUMBER, hall -> hall.thin(3, 1));
        TWINS.leavesAll(States::nearlyFull, "21: line 7 of 7", NUMBER, hall -> hall.thin(7, 1));
        for (int none : new int[] {0, 101, -1, LEAST, GREATEST}) {
            TWINS.refused("21: share " + none, NUMBER, hall -> hall.thin(0, none));
            TWINS.refused("21: share " + none + " of another", NUMBER, hall -> hall.thin(2, none));
        }
    }

    private static int holding(Consumer<TriggerHall> made, String text) {
        TriggerHall hall = new TriggerHall();
        made.accept(hall);
        DUE.is("22: comes " + text, Hall.keep(hall, text, 1), 0);
        return hall.holds(0);
    }

    private static void asks(Consumer<TriggerHall> made, String letter, int last) {
        for (int number = Math.max(0, last - 1); number <= Math.min(999, last + 1); number++) {
            String text = letter + number;
            DUE.is("22: " + text, holding(made, text), number <= last ? 1 : 0);
            DUE.is("22: !" + text, holding(made, "!" + text), number <= last ? 0 : 1);
        }
    }

    private static void holdsAtTheNumber() {
        Consumer<TriggerHall> none = hall -> { };
        Consumer<TriggerHall> some = hall -> {
            hall.road(3, 3, 3, 3, 3, 1);
            hall.road(1215, 1215, 1215, 1215, 1215, 2);
            Hall.hits(hall, 0x8003, 0, 0x0002, 0xF000, 0x0100);
            hall.mask(0, 0, 0x0002);
            hall.mask(4, 1, 0x0100);
        };
        // seen are cells 0 and 15 of layer 0, 1 of layer 2 and 12 to 15 of layer 3
        for (String letter : new String[] {"t", "h", "w", "l"}) {
            asks(none, letter, 0);
        }
        asks(some, "t", 2);
        asks(some, "h", 7);
        asks(some, "w", 400);
        asks(some, "l", 3);
    }

    private static void holdsAtTheGreatestNumbers() {
        Consumer<TriggerHall> all = hall -> {
            for (int n = 0; n < 12; n++) {
                hall.road(101 * n, 101 * n, 101 * n, 101 * n, 101 * n, 5);
            }
            Hall.hits(hall, 65535, 65535, 65535, 65535, 65535);
        };
        asks(all, "t", 12);
        asks(all, "h", 80);
        asks(all, "l", 5);
        DUE.is("22: w999 of 6000", holding(all, "w999"), 1);
        Consumer<TriggerHall> near = hall -> {
            hall.road(0, 0, 0, 0, 0, 5);
            hall.road(101, 101, 101, 101, 202, 5);
            Hall.hits(hall, 3, 3, 3, 3, 5);
        };
        // 500 and 500 less the whole part of 10 times 2/5
        asks(near, "w", 996);
    }

    private static void holdsOfRoads() {
        Consumer<TriggerHall> twelve = hall -> {
            for (int n = 0; n < 12; n++) {
                hall.road(3, 3, 3, 3, 3, n % 2 == 0 ? 5 : 1);
            }
            hall.hits(0, 1);
        };
        Consumer<TriggerHall> eleven = hall -> {
            for (int n = 0; n < 11; n++) {
                hall.road(3, 3, 3, 3, 3, 1);
            }
            hall.hits(0, 1);
        };
        for (int n = 0; n < 1000; n++) {
            DUE.is("22: r" + n + " of twelve", holding(twelve, "r" + n), n < 12 && n % 2 == 1 ? 1 : 0);
            DUE.is("22: r" + n + " of eleven", holding(eleven, "r" + n), n < 11 ? 1 : 0);
            DUE.is("22: r" + n + " of none", holding(hall -> hall.hits(0, 1), "r" + n), 0);
        }
    }

    /** h0 holds and h1 doesn't, as nothing is seen: all three of each, with and without ! and (. */
    private static void holdsOfAnyAndBoth() {
        for (int n = 0; n < 8; n++) {
            boolean a = (n & 1) == 0;
            boolean b = (n & 2) == 0;
            boolean c = (n & 4) == 0;
            String ta = "h" + (n & 1);
            String tb = "h" + (n >> 1 & 1);
            String tc = "h" + (n >> 2);
            together(ta + "|" + tb, a || b);
            together(ta + "&" + tb, a && b);
            together("!" + ta, !a);
            together("!!" + ta, a);
            together("!" + ta + "|" + tb, !a || b);
            together("!" + ta + "&" + tb, !a && b);
            together(ta + "|" + tb + "|" + tc, a || b || c);
            together(ta + "&" + tb + "&" + tc, a && b && c);
            together(ta + "|" + tb + "&" + tc, a || b && c);
            together(ta + "&" + tb + "|" + tc, a && b || c);
            together("(" + ta + "|" + tb + ")&" + tc, (a || b) && c);
            together(ta + "&(" + tb + "|" + tc + ")", a && (b || c));
            together("!(" + ta + "|" + tb + ")&" + tc, !(a || b) && c);
            together("!(" + ta + "&" + tb + ")|" + tc, !(a && b) || c);
            together(ta + "|!" + tb + "&" + tc, a || !b && c);
        }
    }

    private static void together(String text, boolean want) {
        DUE.is("22: " + text, holding(hall -> { }, text), want ? 1 : 0);
    }

    private static void holdsOfAnotherLook() {
        TriggerHall hall = new TriggerHall();
        hall.road(3, 3, 3, 3, 3, 1);
        String[] texts = {"t1", "h1", "w1", "l1", "r0"};
        for (String text : texts) {
            Hall.keep(hall, text, 1);
        }
        for (int n = 0; n < 6; n++) {
            hall.hits(0, n % 2);
            for (int line = 0; line < texts.length; line++) {
                DUE.is("22: " + texts[line] + ", look " + n, hall.holds(line), n % 2);
            }
        }
    }

    private static void holdsRefusals() {
        for (int none : new int[] {-1, 8, LEAST, GREATEST}) {
            TWINS.refused("22: line " + none, NUMBER, hall -> hall.holds(none));
        }
        TWINS.leavesAll(hall -> { }, "22: there is no line", NUMBER, hall -> hall.holds(0));
        TWINS.leavesAll(States::busy, "22: line 3 of 3", NUMBER, hall -> hall.holds(3));
        TWINS.leavesAll(States::nearlyFull, "22: line 7 of 7", NUMBER, hall -> hall.holds(7));
        // what isn't refused changes no count either
        TWINS.leavesAll(States::full, "22: it holds", 1, hall -> hall.holds(7));
        TWINS.leavesAll(States::busy, "22: it holds", 1, hall -> hall.holds(0));
    }

    private static void countsAreMultiples() {
        for (int share : new int[] {1, 2, 3, 7, 99, 100}) {
            TriggerHall hall = new TriggerHall();
            Hall.keep(hall, "h0", share);
            for (int count = 1; count <= 201; count++) {
                DUE.is("23: count " + count + " of share " + share, hall.fire(), count % share == 0 ? 1 : 0);
            }
            DUE.is("23: its count", hall.of(0, 2), 201);
            DUE.is("23: it passed", hall.of(0, 3), 201 / share);
            DUE.is("23: it was kept", hall.of(0, 4), 201 / share);
        }
    }

    /** Keeps 0 and 1 and bar 2, each by a cell of its own. */
    private static void ofTheOnlyKeep() {
        for (int passing = 0; passing < 8; passing++) {
            TriggerHall hall = new TriggerHall();
            for (int n = 0; n < 3; n++) {
                hall.road(n == 0 ? 0 : 707, n == 1 ? 0 : 707, n == 2 ? 0 : 707, 707, 707, 1);
            }
            Hall.keep(hall, "r0", 1);
            Hall.keep(hall, "r1", 1);
            Hall.bar(hall, "r2", 1);
            boolean kept = passing != 0 && passing < 4;
            int answer = Hall.fireWith(hall, passing & 1, passing >> 1 & 1, passing >> 2);
            DUE.is("24: passing " + passing, answer, kept ? passing : 0);
            for (int n = 0; n < 3; n++) {
                int passed = passing >> n & 1;
                boolean alone = kept && passing == 1 << n;
                DUE.is("23: count of " + n + ", " + passing, hall.of(n, 2), passed);
                DUE.is("23: passed of " + n + ", " + passing, hall.of(n, 3), passed);
                DUE.is("23: kept of " + n + ", " + passing, hall.of(n, 4), kept ? passed : 0);
                DUE.is("23: alone of " + n + ", " + passing, hall.of(n, 5), alone ? 1 : 0);
            }
            DUE.is("26: barred, " + passing, hall.many(5), passing > 4 ? 1 : 0);
            DUE.is("26: kept, " + passing, hall.many(4), kept ? 1 : 0);
        }
    }

    private static void ofLetters() {
        TriggerHall hall = new TriggerHall();
        Hall.keep(hall, "t1", 1);
        Hall.keep(hall, LONGEST, 1);
        Hall.feed(hall, "xxxxx");
        DUE.is("23: the shortest text", hall.of(0, 6), 2);
        DUE.is("23: the longest text", hall.of(1, 6), 60);
    }

    private static void ofRefusals() {
        for (int none : new int[] {-1, 8, LEAST, GREATEST}) {
            TWINS.refused("23: line " + none, NUMBER, hall -> hall.of(none, 0));
        }
        TWINS.leavesAll(hall -> { }, "23: there is no line", NUMBER, hall -> hall.of(0, 0));
        TWINS.leavesAll(States::busy, "23: line 3 of 3", NUMBER, hall -> hall.of(3, 6));
        TWINS.leavesAll(States::nearlyFull, "23: line 7 of 7", NUMBER, hall -> hall.of(7, 0));
        for (int none : new int[] {-1, 7, LEAST, GREATEST}) {
            TWINS.refused("23: what " + none, NUMBER, hall -> hall.of(0, none));
            TWINS.refused("23: what " + none + " of another", NUMBER, hall -> hall.of(2, none));
        }
    }
}
