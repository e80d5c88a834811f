import java.util.function.Consumer;

/** Promises 24 to 29 at their edges: the last number that is allowed, the first that isn't, each refusal. */
public final class CrossingsEdgesTest {
    private static final Due DUE = new Due("CrossingsEdgesTest");
    private static final Twins TWINS = new Twins(DUE);
    private static final int NUMBER = TriggerHall.NUMBER;
    private static final int LEAST = Integer.MIN_VALUE;
    private static final int GREATEST = Integer.MAX_VALUE;

    public static void main(String[] args) {
        states();
        fireEmptiesTheHand();
        fireLostIsNoRefusal();
        fireAllLines();
        restOfEachLength();
        restFromTheNextKeptOn();
        restOnlyBehindKept();
        restRefusals();
        manyOfEach();
        manyRefusals();
        rawUpToThirty();
        rawRefusals();
        rawAsAllIsNow();
        rawChangesNothing();
        againOfEach();
        againRefusals();
        anewOfEachState();
        anewEndsTheRest();
        anewBehindThirty();
        DUE.end();
    }

    /** The states that refusals are tried in are what they are said to be. */
    private static void states() {
        TriggerHall full = new TriggerHall();
        States.full(full);
        int[] fulls = {12, 8, 34, 0, 33, 1, 30, 20};
        TriggerHall near = new TriggerHall();
        States.nearlyFull(near);
        int[] nears = {11, 7, 29, 0, 29, 0, 29, 0};
        TriggerHall busy = new TriggerHall();
        States.busy(busy);
        for (int what = 0; what < 8; what++) {
            DUE.is("full, many(" + what + ")", full.many(what), fulls[what]);
            DUE.is("nearly full, many(" + what + ")", near.many(what), nears[what]);
        }
        DUE.is("full, letters", full.feed(0), 60);
        DUE.is("nearly full, letters", near.feed(0), 59);
        DUE.is("busy, roads", busy.many(0), 3);
        DUE.is("busy, lines", busy.many(1), 3);
        DUE.is("busy, to be lost", busy.many(7), 3);
        DUE.is("busy, the text is right", busy.line(1, false), 3);
        DUE.holds("busy, some lit, not all", busy.lit() > 0 && busy.lit() < 7);
    }

    private static void fireEmptiesTheHand() {
        Consumer<TriggerHall> keep = hall -> Hall.keep(hall, "h1", 1);
        firesAway("kept", keep, 1);
        firesAway("not kept", hall -> { }, 0);
        firesAway("barred", keep.andThen(hall -> Hall.bar(hall, "h1", 1)), 0);
        firesAway("lost", keep.andThen(hall -> {
            hall.rest(1);
            Hall.fireWith(hall, 1);
        }), -1);
    }

    private static void firesAway(String what, Consumer<TriggerHall> made, int want) {
        TriggerHall hall = new TriggerHall();
        made.accept(hall);
        int came = hall.many(2);
        hall.mask(1, 0, 3);
        hall.mask(2, 1, 5);
        DUE.is("24: " + what, Hall.fireWith(hall, 1, 0xFFFF, 0xFFFF, 0xFFFF, 0x8000), want);
        DUE.is("24: it came, " + what, hall.many(2), came + 1);
        for (int layer = 0; layer < 5; layer++) {
            DUE.is("24: no hits of layer " + layer + ", " + what, hall.layer(layer, 0), 0);
            DUE.is("24: dead cells stay, " + what, hall.layer(layer, 2), layer == 1 ? 3 : 0);
            DUE.is("24: noisy cells stay, " + what, hall.layer(layer, 3), layer == 2 ? 5 : 0);
        }
    }

    private static void fireLostIsNoRefusal() {
        TriggerHall hall = new TriggerHall();
        Hall.keep(hall, "h0", 1);
        hall.rest(1);
        hall.fire();
        DUE.is("24: lost", Hall.fireWith(hall, 1), -1);
        DUE.is("24: it has a number all the same", hall.many(2), 2);
        DUE.is("24: it is one of the lost", hall.many(3), 1);
        DUE.is("24: none less is to be lost", hall.many(7), 0);
        DUE.is("24: no count changes", hall.of(0, 2), 1);
        DUE.is("24: it isn't raw", hall.many(6), 1);
        DUE.is("24: the next one is looked at", hall.fire(), 1);
        DUE.is("24: its number is behind the lost one's", hall.raw(0, 0), 2);
    }

    private static void fireAllLines() {
        TriggerHall hall = new TriggerHall();
        DUE.is("24: no line", hall.fire(), 0);
        for (int n = 0; n < 8; n++) {
            Hall.keep(hall, "h" + n, 1);
        }
        for (int n = 0; n < 8; n++) {
            DUE.is("24: lines up to " + n, Hall.fireWith(hall, (1 << n) - 1), (2 << n) - 1);
            DUE.is("27: and raw", hall.raw(0, 1), (2 << n) - 1);
        }
        TriggerHall bars = new TriggerHall();
        for (int n = 0; n < 7; n++) {
            Hall.keep(bars, "h0", 1);
        }
        Hall.bar(bars, "h1", 1);
        DUE.is("24: the last line is a bar, that doesn't hold", bars.fire(), 127);
        DUE.is("24: the last line bars", Hall.fireWith(bars, 1), 0);
        DUE.is("26: barred", bars.many(5), 1);
    }

    private static void restOfEachLength() {
        for (int rest = 0; rest <= 20; rest++) {
            TriggerHall hall = new TriggerHall();
            Hall.keep(hall, "h0", 1);
            DUE.is("25: rest(" + rest + ")", hall.rest(rest), 0);
            DUE.is("25: nothing is lost yet", hall.many(7), 0);
            DUE.is("24: the first one is kept", hall.fire(), 1);
            for (int n = rest; n > 0; n--) {
                DUE.is("26: to be lost", hall.many(7), n);
                DUE.is("24: lost", hall.fire(), -1);
            }
            DUE.is("26: none to be lost", hall.many(7), 0);
            DUE.is("24: the one behind is kept", hall.fire(), 1);
            DUE.is("26: lost", hall.many(3), rest);
            DUE.is("26: to be lost anew", hall.many(7), rest);
            DUE.is("25: what it was", hall.rest(0), rest);
        }
    }

    private static void restFromTheNextKeptOn() {
        for (int later : new int[] {0, 1, 3, 20}) {
            TriggerHall hall = new TriggerHall();
            Hall.keep(hall, "h0", 1);
            hall.rest(2);
            hall.fire();
            DUE.is("25: rest(" + later + ") behind a kept one", hall.rest(later), 2);
            DUE.is("26: two as before", hall.many(7), 2);
            DUE.is("24: the first one", hall.fire(), -1);
            DUE.is("24: the second one", hall.fire(), -1);
            DUE.is("24: no third one", hall.fire(), 1);
            DUE.is("26: the new rest counts", hall.many(7), later);
        }
        TriggerHall hall = new TriggerHall();
        Hall.keep(hall, "h0", 1);
        hall.fire();
        hall.rest(20);
        DUE.is("25: not from the last kept one on", hall.many(7), 0);
        DUE.is("24: the next one is looked at", hall.fire(), 1);
    }

    private static void restOnlyBehindKept() {
        TriggerHall hall = new TriggerHall();
        Hall.keep(hall, "h1", 1);
        Hall.bar(hall, "h2", 1);
        hall.rest(20);
        DUE.is("24: not kept", hall.fire(), 0);
        DUE.is("26: none to be lost", hall.many(7), 0);
        DUE.is("24: barred", Hall.fireWith(hall, 3), 0);
        DUE.is("26: none to be lost behind a barred one", hall.many(7), 0);
        DUE.is("24: kept", Hall.fireWith(hall, 1), 1);
        DUE.is("26: 20 to be lost", hall.many(7), 20);
    }

    private static void restRefusals() {
        for (int none : new int[] {-1, 21, LEAST, GREATEST}) {
            TWINS.refused("25: rest " + none, NUMBER, hall -> hall.rest(none));
        }
        TriggerHall hall = new TriggerHall();
        DUE.is("25: the greatest", hall.rest(20), 0);
        DUE.is("25: one more", hall.rest(21), NUMBER);
        DUE.is("25: the least", hall.rest(0), 20);
        DUE.is("25: one less", hall.rest(-1), NUMBER);
        DUE.is("25: it stays", hall.rest(0), 0);
    }

    private static void manyOfEach() {
        TriggerHall hall = new TriggerHall();
        Hall.keep(hall, "h1", 2);
        Hall.bar(hall, "h2", 2);
        hall.rest(1);
        // both hold; both pass; the keep holds; it passes, the bar holds; lost; the keep holds
        int[] hits = {3, 3, 1, 3, 3, 1};
        int[] answers = {0, 0, 0, 1, -1, 0};
        int[] barred = {0, 1, 1, 1, 1, 1};
        for (int n = 0; n < hits.length; n++) {
            DUE.is("24: fire " + n, Hall.fireWith(hall, hits[n]), answers[n]);
            DUE.is("26: came by " + n, hall.many(2), n + 1);
            DUE.is("26: barred by " + n, hall.many(5), barred[n]);
            DUE.is("26: kept by " + n, hall.many(4), n < 3 ? 0 : 1);
            DUE.is("26: lost by " + n, hall.many(3), n < 4 ? 0 : 1);
            DUE.is("26: raw by " + n, hall.many(6), n < 3 ? 0 : 1);
            DUE.is("26: to be lost by " + n, hall.many(7), n == 3 ? 1 : 0);
        }
        TriggerHall alone = new TriggerHall();
        Hall.bar(alone, "h0", 1);
        DUE.is("24: a bar alone", alone.fire(), 0);
        DUE.is("26: bars none", alone.many(5), 0);
        Hall.bar(alone, "h0", 1);
        Hall.keep(alone, "h0", 1);
        alone.fire();
        DUE.is("26: two bars bar one", alone.many(5), 1);
    }

    private static void manyRefusals() {
        for (int none : new int[] {-1, 8, LEAST, GREATEST}) {
            TWINS.refused("26: what " + none, -1, hall -> hall.many(none));
        }
    }

    private static void rawUpToThirty() {
        TriggerHall hall = new TriggerHall();
        Hall.keep(hall, "h1", 1);
        for (int kept = 1; kept <= 92; kept++) {
            hall.hits(0, kept);
            hall.hits(4, 0x8000 | kept);
            hall.fire();
            int there = Math.min(30, kept);
            DUE.is("27: the latest of " + kept, hall.raw(0, 0), kept - 1);
            DUE.is("27: the oldest of " + kept, hall.raw(there - 1, 2), kept - there + 1);
        }
        DUE.is("26: kept", hall.many(4), 92);
        DUE.is("26: raw", hall.many(6), 30);
        DUE.is("27: the oldest one", hall.raw(29, 0), 62);
        DUE.is("27: its hits of the last layer", hall.raw(29, 6), 0x8000 | 63);
        DUE.is("27: none older", hall.raw(30, 0), NUMBER);
        for (int kept : new int[] {0, 1, 29, 30, 31, 32, 60, 61}) {
            rawsBehind(kept);
        }
    }

    private static void rawsBehind(int kept) {
        TriggerHall hall = new TriggerHall();
        Hall.keep(hall, "h1", 1);
        for (int n = 0; n < kept; n++) {
            hall.fire();
            Hall.fireWith(hall, n + 1);
        }
        int there = Math.min(30, kept);
        DUE.is("26: raw behind " + kept, hall.many(6), there);
        for (int k = -1; k <= 61; k++) {
            boolean is = k >= 0 && k < there;
            DUE.is("27: raw(" + k + ", 0) behind " + kept, hall.raw(k, 0), is ? 2 * (kept - k) - 1 : NUMBER);
            DUE.is("27: raw(" + k + ", 2) behind " + kept, hall.raw(k, 2), is ? kept - k : NUMBER);
            DUE.is("28: again(" + k + ") behind " + kept, hall.again(k), is ? Integer.bitCount(kept - k) : NUMBER);
        }
    }

    private static void rawRefusals() {
        for (int none : new int[] {-1, 30, LEAST, GREATEST}) {
            TWINS.refused("27: k " + none, NUMBER, hall -> hall.raw(none, 0));
            TWINS.refused("27: k " + none + ", what 7", NUMBER, hall -> hall.raw(none, 7));
        }
        TWINS.leavesAll(hall -> { }, "27: none is there", NUMBER, hall -> hall.raw(0, 0));
        TWINS.leavesAll(States::nearlyFull, "27: k 29 of 29", NUMBER, hall -> hall.raw(29, 0));
        for (int none : new int[] {-1, 8, LEAST, GREATEST}) {
            TWINS.refused("27: what " + none, NUMBER, hall -> hall.raw(0, none));
        }
    }

    private static void rawAsAllIsNow() {
        TriggerHall hall = new TriggerHall();
        Hall.keep(hall, "h1", 1);
        Hall.keep(hall, "r0", 1);
        Hall.fireWith(hall, 0x8000);
        DUE.is("27: no road then", hall.raw(0, 7), 0b01);
        hall.road(1515, 0, 0, 0, 0, 1);
        DUE.is("27: a road now", hall.raw(0, 7), 0b11);
        hall.span(0, 0, 1414);
        DUE.is("27: another span now", hall.raw(0, 7), 0b01);
        hall.span(0, 0, 1515);
        hall.mask(0, 0, 0x8000);
        DUE.is("27: dead now", hall.raw(0, 7), 0);
        hall.mask(0, 0, 0x7FFF);
        DUE.is("27: dead no more", hall.raw(0, 7), 0b11);
        hall.mask(0, 1, 0x8000);
        DUE.is("27: noisy now", hall.raw(0, 7), 0);
        hall.mask(0, 1, 0);
        Hall.bar(hall, "h1", 100);
        for (int n = 3; n < 8; n++) {
            Hall.keep(hall, "h" + (n - 2), n);
        }
        DUE.is("27: bars too, and whether they pass or not", hall.raw(0, 7), 0b1111);
        DUE.is("27: those that passed stay", hall.raw(0, 1), 0b01);
        hall.hits(0, 0xFFFF);
        DUE.is("27: of it, not of the one in hand", hall.raw(0, 7), 0b1111);
    }

    private static void rawChangesNothing() {
        for (int k : new int[] {0, 29}) {
            for (int what = 0; what < 8; what++) {
                int asked = what;
                TriggerHall hall = new TriggerHall();
                States.full(hall);
                int want = hall.raw(k, what);
                TWINS.leavesAll(States::full, "27: raw(" + k + ", " + what + ")", want, one -> one.raw(k, asked));
            }
        }
    }

    private static void againOfEach() {
        TriggerHall hall = new TriggerHall();
        Hall.keep(hall, "h1", 1);
        int[][] kept = {{1, 0, 0, 0, 0}, {0, 0, 0, 0, 0x8000}, {0xFFFF, 0xFFFF, 0xFFFF, 0xFFFF, 0xFFFF}};
        int[] many = {1, 1, 80};
        for (int[] hits : kept) {
            Hall.fireWith(hall, hits);
        }
        for (int k = 0; k < 3; k++) {
            Hall.hits(hall, 0xF0F0, 0xF0F0, 0xF0F0, 0xF0F0, 0xF0F0);
            DUE.is("28: again(" + k + ")", hall.again(k), many[2 - k]);
            for (int layer = 0; layer < 5; layer++) {
                DUE.is("28: layer " + layer + " of " + k, hall.layer(layer, 0), kept[2 - k][layer]);
            }
        }
        hall.mask(0, 0, 0xFFFF);
        hall.mask(1, 1, 0xFFFF);
        DUE.is("28: hits, seen or not", hall.again(0), 80);
        DUE.is("28: they stay raw", hall.many(6), 3);
        DUE.is("28: nothing comes", hall.many(2), 3);
        hall.rest(20);
        hall.fire();
        DUE.is("28: also while others are lost", hall.again(0), 80);
        DUE.is("24: it is lost too", hall.fire(), -1);
    }

    private static void againRefusals() {
        for (int none : new int[] {-1, 30, LEAST, GREATEST}) {
            TWINS.refused("28: k " + none, NUMBER, hall -> hall.again(none));
        }
        TWINS.leavesAll(hall -> hall.hits(0, 7), "28: none is there", NUMBER, hall -> hall.again(0));
        TWINS.leavesAll(States::nearlyFull, "28: k 29 of 29", NUMBER, hall -> hall.again(29));
        Consumer<TriggerHall> anew = hall -> {
            States.full(hall);
            hall.anew();
        };
        TWINS.leavesAll(anew, "28: none is there any more", NUMBER, hall -> hall.again(0));
        TWINS.leavesAll(anew, "27: none is there any more", NUMBER, hall -> hall.raw(0, 0));
    }

    private static void anewOfEachState() {
        anew("new", hall -> { }, 0);
        anew("busy", States::busy, 7);
        anew("nearly full", States::nearlyFull, 29);
        anew("full", States::full, 34);
    }

    private static void anew(String what, Consumer<TriggerHall> made, int came) {
        TriggerHall before = new TriggerHall();
        made.accept(before);
        TriggerHall hall = new TriggerHall();
        made.accept(hall);
        DUE.is("29: " + what, hall.anew(), came);
        for (int n = 0; n < 8; n++) {
            DUE.is("29: many(" + n + "), " + what, hall.many(n), n < 2 ? before.many(n) : 0);
        }
        for (int line = 0; line < before.many(1); line++) {
            for (int n = 0; n < 7; n++) {
                int want = n < 2 || n == 6 ? before.of(line, n) : 0;
                DUE.is("29: of(" + line + ", " + n + "), " + what, hall.of(line, n), want);
            }
            DUE.is("29: the text of " + line + " stays, " + what, hall.holds(line), before.holds(line));
        }
        for (int n = 0; n < 20; n++) {
            DUE.is("29: layer(" + n / 4 + "), " + what, hall.layer(n / 4, n % 4), before.layer(n / 4, n % 4));
        }
        DUE.is("29: lit, " + what, hall.lit(), before.lit());
        for (int n = 0; n < 60; n++) {
            DUE.is("29: spans stay, " + what, hall.span(n / 5, n % 5, 3), before.span(n / 5, n % 5, 3));
        }
        DUE.is("29: the tape stays, " + what, hall.clear(), before.clear());
        DUE.is("29: rest stays, " + what, hall.rest(0), before.rest(0));
        for (int r = 0; r < 3; r++) {
            DUE.is("29: sheets stay, " + what, hall.load(r, 0), before.load(r, 0));
        }
        DUE.is("29: no raw one, " + what, hall.raw(0, 0), NUMBER);
        DUE.is("29: nothing has come, " + what, hall.anew(), 0);
    }

    private static void anewEndsTheRest() {
        TriggerHall hall = new TriggerHall();
        Hall.keep(hall, "h0", 2);
        hall.rest(20);
        hall.fire();
        hall.fire();
        DUE.is("29: 20 to be lost", hall.many(7), 20);
        hall.anew();
        DUE.is("29: none to be lost", hall.many(7), 0);
        DUE.is("29: the first one is looked at, its count is 1", hall.fire(), 0);
        DUE.is("29: the second one passes", hall.fire(), 1);
        DUE.is("29: its number counts from 0", hall.raw(0, 0), 1);
        DUE.is("29: the rest is as it was", hall.many(7), 20);
    }

    private static void anewBehindThirty() {
        TriggerHall hall = new TriggerHall();
        States.full(hall);
        hall.rest(0);
        hall.anew();
        Hall.hits(hall, 0, 0, 0, 0, 0);
        for (int n = 0; n < 31; n++) {
            DUE.is("29: so many raw ones", hall.many(6), Math.min(n, 30));
            DUE.is("29: none older", hall.raw(n, 0), NUMBER);
            Hall.fireWith(hall, 2 * n + 1);
            DUE.is("29: the first number", hall.raw(Math.min(n, 29), 0), n < 30 ? 0 : 1);
            DUE.is("29: the hits", hall.raw(0, 2), 2 * n + 1);
        }
    }
}
