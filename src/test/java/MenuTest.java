/** Promises 18 to 23. */
public final class MenuTest {
    private static final Due DUE = new Due("MenuTest");

    public static void main(String[] args) {
        feed();
        clear();
        line();
        faults();
        openAtOnce();
        thin();
        holds();
        holdsTogether();
        of();
        DUE.end();
    }

    private static void feed() {
        TriggerHall hall = new TriggerHall();
        DUE.is("18: nothing", hall.feed(0), 0);
        DUE.is("18: a 0 first", hall.feed(0x41424300), 0);
        DUE.is("18: a 0 second", hall.feed(0x41420043), 1);
        DUE.is("18: a 0 third", hall.feed(0x41004344), 3);
        DUE.is("18: a 0 last", hall.feed(0x00434445), 6);
        DUE.is("18: four letters", hall.feed(0x41424344), 10);
        DUE.is("18: four of the greatest", hall.feed(-1), 14);
        for (int n = 18; n <= 58; n += 4) {
            hall.feed(-1);
        }
        DUE.is("18: 61", hall.feed(0x414243), TriggerHall.FULL);
        DUE.is("18: 60", hall.feed(0x4142), 60);
        DUE.is("18: one more", hall.feed(0x41), TriggerHall.FULL);
        DUE.is("18: none more", hall.feed(0), 60);
        DUE.is("18: what is refused doesn't come", hall.clear(), 60);
        DUE.is("18: the lowest byte comes first", Hall.answerTo("t1"), 0);
    }

    private static void clear() {
        TriggerHall hall = new TriggerHall();
        Hall.feed(hall, "xx");
        DUE.is("19: two letters", hall.clear(), 2);
        DUE.is("19: none", hall.clear(), 0);
        DUE.is("19: what was there doesn't come back", Hall.keep(hall, "h1", 1), 0);
        DUE.is("19: a line empties it", hall.clear(), 0);
    }

    private static void line() {
        TriggerHall hall = new TriggerHall();
        Hall.feed(hall, "h1");
        DUE.is("20: share 0", hall.line(0, false), TriggerHall.NUMBER);
        DUE.is("20: share 101", hall.line(101, false), TriggerHall.NUMBER);
        DUE.is("20: share 100", hall.line(100, false), 0);
        DUE.is("20: the tape is empty then", hall.line(1, false), TriggerHall.FAULT);
        Hall.feed(hall, "h1&");
        DUE.is("20: a fault", hall.line(1, false), TriggerHall.FAULT - 3);
        DUE.is("20: share ahead of fault", hall.line(0, false), TriggerHall.NUMBER);
        DUE.is("20: the tape stays then", Hall.feed(hall, "h2"), 5);
        DUE.is("20: and goes on", hall.line(1, true), 1);
        for (int n = 2; n < 8; n++) {
            DUE.is("20: line " + n, Hall.keep(hall, "t1", 1), n);
        }
        Hall.feed(hall, "x");
        DUE.is("20: the ninth, ahead of its fault", hall.line(1, false), TriggerHall.FULL);
        DUE.is("20: share ahead of FULL", hall.line(0, false), TriggerHall.NUMBER);
        DUE.is("20: eight have come", hall.many(1), 8);
        DUE.is("20: the tape stays when there are too many", hall.clear(), 1);
    }

    private static void faults() {
        fault("", 0);
        fault("x1", 0);
        fault("T1", 0);
        fault("1", 0);
        fault("&", 0);
        fault("|t1", 0);
        fault(")", 0);
        fault(" t1", 0);
        fault("\u00ff", 0);
        fault("t", 1);
        fault("tt1", 1);
        fault("t&", 1);
        fault("!", 1);
        fault("(", 1);
        fault("()", 1);
        fault("!)", 1);
        fault("!&", 1);
        fault("t1 ", 2);
        fault("t1t1", 2);
        fault("t1(", 2);
        fault("t1!", 2);
        fault("t1)", 2);
        fault("t1&", 3);
        fault("t1|", 3);
        fault("t1&&t1", 3);
        fault("t1|&t1", 3);
        fault("t1&)", 3);
        fault("(t1", 3);
        fault("!(t1", 4);
        fault("(t1&)", 4);
        fault("(t1))", 4);
        fault("(t1)t", 4);
        fault("(t1)(", 4);
        fault("(t1)!t1", 4);
        fault("(t1)1", 4);
        fault("t1234", 4);
        fault("r0000", 4);
        fault("(t1|h22&!w333x", 13);
        fault("t1x&&&", 2);
        fault("t/", 1);
        fault("t:", 1);
        String[] right = {"t1", "h22", "w333", "l0", "r000", "!t1", "!!t1", "(t1)", "((t1))", "!(t1)", "(!t1)",
            "t1&h2", "t1|h2", "t1&h2|w3&!l4|(r5|t6)&h7", "!(t1|!(h2&w3))&l4"};
        for (String text : right) {
            DUE.is("20: " + text, Hall.answerTo(text), 0);
        }
    }

    private static void fault(String text, int place) {
        DUE.is("20: " + text, Hall.answerTo(text), TriggerHall.FAULT - place);
    }

    private static void openAtOnce() {
        String half = "(!".repeat(10);
        DUE.is("20: 20 open", Hall.answerTo(half + "t1" + ")".repeat(10)), 0);
        fault(half + "(t1" + ")".repeat(11), 20);
        fault(half + "!t1" + ")".repeat(10), 20);
        fault("!".repeat(21), 20);
        fault("!".repeat(20), 20);
        fault("(".repeat(60), 20);
        fault("(".repeat(20) + ")", 20);
        String less = "!".repeat(19);
        DUE.is("20: a ! ends with its letter and number", Hall.answerTo(less + "!t1&" + less + "!t1"), 0);
        fault(less + "(!t1", 20);
        DUE.is("20: a ! ends with its )", Hall.answerTo("!(t1)&" + less + "!t1"), 0);
        fault("(!(t1)&" + less + "!t1", 26);
        DUE.is("20: a ( ends with its )", Hall.answerTo("(t1)|" + "(".repeat(20) + "t1" + ")".repeat(20)), 0);
        fault("!(t1&" + "!".repeat(19) + "t1)", 23);
        DUE.is("20: 60 letters", Hall.answerTo("t1|".repeat(19) + "t11"), 0);
        fault("t1|".repeat(20), 60);
    }

    private static void thin() {
        TriggerHall hall = new TriggerHall();
        Hall.keep(hall, "h0", 3);
        hall.fire();
        DUE.is("21: thin(0, 2)", hall.thin(0, 2), 3);
        DUE.is("21: its count stays", hall.of(0, 2), 1);
        DUE.is("21: and goes on to a multiple", hall.fire(), 1);
        DUE.is("21: thin(0, 100)", hall.thin(0, 100), 2);
        DUE.is("21: share 0", hall.thin(0, 0), TriggerHall.NUMBER);
        DUE.is("21: share 101", hall.thin(0, 101), TriggerHall.NUMBER);
        DUE.is("21: line above", hall.thin(1, 1), TriggerHall.NUMBER);
        DUE.is("21: line below", hall.thin(-1, 1), TriggerHall.NUMBER);
        DUE.is("21: refused ones change nothing", hall.of(0, 0), 100);
    }

    private static void holds() {
        TriggerHall hall = new TriggerHall();
        hall.road(0, 0, 0, 0, 0, 1);
        hall.road(101, 101, 101, 101, 101, 3);
        Hall.hits(hall, 0b1001, 0b0011, 0b0001, 0b0010);
        hall.mask(0, 1, 0b1000);
        // seen are 5 cells in 4 layers; road 0 is lit with 3 layers, road 1 with 2 is not
        asks(hall, "t1", 1);
        asks(hall, "t2", 0);
        asks(hall, "h5", 1);
        asks(hall, "h6", 0);
        asks(hall, "w300", 1);
        asks(hall, "w301", 0);
        asks(hall, "l4", 1);
        asks(hall, "l5", 0);
        asks(hall, "r0", 1);
        asks(hall, "r1", 0);
        asks(hall, "r2", 0);
        asks(hall, "r12", 0);
        asks(hall, "r32", 0);
        asks(hall, "r999", 0);
        asks(hall, "r000", 1);
        asks(hall, "h005", 1);
        asks(hall, "h006", 0);
        asks(hall, "w030", 1);
        DUE.is("22: line above", hall.holds(0), TriggerHall.NUMBER);
        DUE.is("22: line below", hall.holds(-1), TriggerHall.NUMBER);
        hall.hits(4, 0b0010);
        asks(hall, "r1", 1);
        asks(hall, "r0&r1&t2&w600", 1);
        TriggerHall dark = new TriggerHall();
        asks(dark, "t0&h0&w0&l0", 1);
        asks(dark, "t1|h1|w1|l1|r0", 0);
    }

    /** Asks a hall with the same hits, masks and roads, but a menu of its own. */
    private static void asks(TriggerHall like, String text, int want) {
        TriggerHall hall = new TriggerHall();
        for (int n = 0; n < like.many(0); n++) {
            hall.road(101 * n, 101 * n, 101 * n, 101 * n, 101 * n, 2 * n + 1);
        }
        for (int layer = 0; layer < 5; layer++) {
            hall.hits(layer, like.layer(layer, 0));
            hall.mask(layer, 1, like.layer(layer, 3));
        }
        DUE.is("22: comes " + text, Hall.keep(hall, text, 1), 0);
        DUE.is("22: " + text, hall.holds(0), want);
        DUE.is("22: no count changes", hall.of(0, 2), 0);
    }

    private static void holdsTogether() {
        TriggerHall dark = new TriggerHall();
        // h0 holds, h1 does not
        asks(dark, "h0|h1&h1", 1);
        asks(dark, "h1&h1|h0", 1);
        asks(dark, "(h0|h1)&h1", 0);
        asks(dark, "h1|h0&h0", 1);
        asks(dark, "h0&h1|h1&h0", 0);
        asks(dark, "!h1&h0", 1);
        asks(dark, "!h1&h1", 0);
        asks(dark, "!(h1&h1)", 1);
        asks(dark, "!h0|h0", 1);
        asks(dark, "!(h0|h0)", 0);
        asks(dark, "!!h0", 1);
        asks(dark, "!!!h0", 0);
        asks(dark, "h1|h1|h0", 1);
        asks(dark, "h0&h0&h1", 0);
        asks(dark, "h0|h0|h1", 1);
        asks(dark, "h1&h0&h0", 0);
    }

    private static void of() {
        TriggerHall hall = new TriggerHall();
        Hall.keep(hall, "h1", 2);
        Hall.keep(hall, "h1|t1", 1);
        Hall.bar(hall, "h3", 1);
        Hall.fireWith(hall, 1);
        Hall.fireWith(hall, 1);
        Hall.fireWith(hall, 7);
        Hall.fireWith(hall, 7);
        Hall.fireWith(hall, 0);
        ofs(hall, 0, 2, 0, 4, 2, 1, 0, 2);
        ofs(hall, 1, 1, 0, 4, 4, 2, 1, 5);
        ofs(hall, 2, 1, 1, 2, 2, 0, 0, 2);
        DUE.is("23: what above", hall.of(0, 7), TriggerHall.NUMBER);
        DUE.is("23: what below", hall.of(0, -1), TriggerHall.NUMBER);
        DUE.is("23: line above", hall.of(3, 0), TriggerHall.NUMBER);
        DUE.is("23: line below", hall.of(-1, 0), TriggerHall.NUMBER);
    }

    private static void ofs(TriggerHall hall, int line, int... wants) {
        for (int what = 0; what < wants.length; what++) {
            DUE.is("23: of(" + line + ", " + what + ")", hall.of(line, what), wants[what]);
        }
    }
}
