/** Promises 24 to 29. */
public final class CrossingsTest {
    private static final Due DUE = new Due("CrossingsTest");

    public static void main(String[] args) {
        fire();
        fireWithBars();
        rest();
        many();
        raw();
        rawLatest();
        again();
        anew();
        DUE.end();
    }

    private static void fire() {
        TriggerHall hall = new TriggerHall();
        DUE.is("24: no line", Hall.fireWith(hall, 1), 0);
        DUE.is("24: no hits then", hall.layer(0, 0), 0);
        Hall.keep(hall, "h1", 1);
        Hall.keep(hall, "h1", 2);
        Hall.keep(hall, "h2", 1);
        DUE.is("24: nothing holds", hall.fire(), 0);
        DUE.is("24: one passes", Hall.fireWith(hall, 1), 0b001);
        DUE.is("24: two pass", Hall.fireWith(hall, 0, 0, 0, 0, 1), 0b011);
        DUE.is("24: no hits of the last layer then", hall.layer(4, 0), 0);
        DUE.is("24: two others pass", Hall.fireWith(hall, 3), 0b101);
        DUE.is("24: all pass", Hall.fireWith(hall, 1, 1), 0b111);
        hall.mask(0, 0, 1);
        DUE.is("24: dead cells aren't looked at", Hall.fireWith(hall, 1), 0);
        DUE.is("24: masks stay", hall.layer(0, 2), 1);
        DUE.is("24: counted all the same", hall.many(2), 7);
    }

    private static void fireWithBars() {
        TriggerHall hall = new TriggerHall();
        Hall.bar(hall, "h2", 2);
        Hall.keep(hall, "h1", 1);
        DUE.is("24: a bar that holds, but doesn't pass", Hall.fireWith(hall, 3), 0b10);
        DUE.is("24: a bar that passes", Hall.fireWith(hall, 3), 0);
        DUE.is("24: no hits behind a barred one", hall.layer(0, 0), 0);
        DUE.is("26: barred", hall.many(5), 1);
        DUE.is("24: the keep passed all the same", hall.of(1, 3), 2);
        DUE.is("24: a barred one isn't raw", hall.many(6), 1);
        hall.thin(0, 1);
        hall.thin(1, 100);
        DUE.is("24: a bar passes alone", Hall.fireWith(hall, 3), 0);
        DUE.is("26: that is none barred", hall.many(5), 1);
    }

    private static void rest() {
        TriggerHall hall = new TriggerHall();
        Hall.keep(hall, "h1", 1);
        DUE.is("25: rest(20)", hall.rest(20), 0);
        DUE.is("25: rest(2)", hall.rest(2), 20);
        DUE.is("25: rest(21)", hall.rest(21), TriggerHall.NUMBER);
        DUE.is("25: rest(-1)", hall.rest(-1), TriggerHall.NUMBER);
        DUE.is("25: behind one that isn't kept", hall.fire(), 0);
        DUE.is("25: nothing is lost", Hall.fireWith(hall, 1), 1);
        DUE.is("26: two would be lost", hall.many(7), 2);
        DUE.is("24: the first one is", Hall.fireWith(hall, 1), -1);
        DUE.is("24: with its hits", hall.layer(0, 0), 0);
        DUE.is("24: nothing was looked at", hall.of(0, 2), 1);
        DUE.is("26: one would be lost", hall.many(7), 1);
        DUE.is("25: another rest", hall.rest(1), 2);
        DUE.is("25: counts from the next kept one on", hall.many(7), 1);
        DUE.is("24: the second one is lost", Hall.fireWith(hall, 1), -1);
        DUE.is("24: the third one isn't", Hall.fireWith(hall, 1), 1);
        DUE.is("25: now it counts", hall.many(7), 1);
        hall.rest(0);
        hall.fire();
        DUE.is("25: no rest", Hall.fireWith(hall, 1), 1);
        DUE.is("25: none would be lost", hall.many(7), 0);
        DUE.is("26: lost", hall.many(3), 3);
    }

    private static void many() {
        TriggerHall hall = new TriggerHall();
        hall.road(0, 0, 0, 0, 0, 1);
        hall.road(0, 0, 0, 0, 0, 1);
        Hall.keep(hall, "h1", 1);
        Hall.bar(hall, "h2", 1);
        Hall.bar(hall, "h3", 1);
        hall.rest(3);
        hall.fire();
        Hall.fireWith(hall, 3);
        Hall.fireWith(hall, 7);
        Hall.fireWith(hall, 1);
        Hall.fireWith(hall, 1);
        int[] wants = {2, 3, 5, 1, 1, 2, 1, 2};
        for (int what = 0; what < wants.length; what++) {
            DUE.is("26: many(" + what + ")", hall.many(what), wants[what]);
        }
        DUE.is("26: what above", hall.many(8), -1);
        DUE.is("26: what below", hall.many(-1), -1);
    }

    private static void raw() {
        TriggerHall hall = new TriggerHall();
        hall.road(0, 0, 0, 0, 0, 5);
        Hall.keep(hall, "h1", 1);
        Hall.keep(hall, "l2", 1);
        hall.fire();
        Hall.fireWith(hall, 1, 2, 4, 8, 16);
        hall.rest(1);
        Hall.fireWith(hall, 32);
        hall.fire();
        Hall.keep(hall, "r0", 1);
        int[] latest = {2, 1, 32, 0, 0, 0, 0, 0b001};
        int[] older = {1, 3, 1, 2, 4, 8, 16, 0b011};
        for (int what = 0; what < 8; what++) {
            DUE.is("27: raw(0, " + what + ")", hall.raw(0, what), latest[what]);
            DUE.is("27: raw(1, " + what + ")", hall.raw(1, what), older[what]);
        }
        for (int layer = 0; layer < 5; layer++) {
            hall.span(0, layer, 101 * layer);
        }
        DUE.is("27: as the roads are now", hall.raw(1, 7), 0b111);
        hall.mask(0, 0, 1);
        DUE.is("27: as the dead cells are now", hall.raw(1, 7), 0b011);
        hall.mask(0, 1, 32);
        DUE.is("27: as the noisy cells are now", hall.raw(0, 7), 0);
        DUE.is("27: its hits are raw", hall.raw(0, 2), 32);
        DUE.is("27: no count changes", hall.of(0, 2), 2);
        DUE.is("27: k above", hall.raw(2, 0), TriggerHall.NUMBER);
        DUE.is("27: k below", hall.raw(-1, 0), TriggerHall.NUMBER);
        DUE.is("27: what above", hall.raw(0, 8), TriggerHall.NUMBER);
        DUE.is("27: what below", hall.raw(0, -1), TriggerHall.NUMBER);
        hall.hits(0, 5);
        hall.raw(1, 7);
        hall.raw(1, 3);
        DUE.is("27: the crossing in hand stays", hall.layer(0, 0), 5);
        DUE.is("27: in all layers", hall.layer(1, 0), 0);
    }

    private static void rawLatest() {
        TriggerHall hall = new TriggerHall();
        Hall.keep(hall, "h1", 1);
        for (int n = 0; n < 30; n++) {
            Hall.fireWith(hall, n + 1);
        }
        DUE.is("27: 30 are there", hall.raw(29, 0), 0);
        for (int n = 30; n < 65; n++) {
            Hall.fireWith(hall, n + 1);
        }
        DUE.is("26: kept", hall.many(4), 65);
        DUE.is("26: raw", hall.many(6), 30);
        for (int k = 0; k < 30; k++) {
            DUE.is("27: raw(" + k + ", 0)", hall.raw(k, 0), 64 - k);
            DUE.is("27: raw(" + k + ", 2)", hall.raw(k, 2), 65 - k);
        }
        DUE.is("27: the 31st isn't there", hall.raw(30, 0), TriggerHall.NUMBER);
        DUE.is("28: nor for again", hall.again(30), TriggerHall.NUMBER);
    }

    private static void again() {
        TriggerHall hall = new TriggerHall();
        Hall.keep(hall, "h1", 1);
        DUE.is("28: none is there", hall.again(0), TriggerHall.NUMBER);
        Hall.fireWith(hall, 3, 0, 7);
        Hall.fireWith(hall, 1);
        Hall.hits(hall, 15, 15, 15, 15, 15);
        DUE.is("28: k below", hall.again(-1), TriggerHall.NUMBER);
        DUE.is("28: k above", hall.again(2), TriggerHall.NUMBER);
        DUE.is("28: refused ones change nothing", hall.layer(4, 0), 15);
        DUE.is("28: again(1)", hall.again(1), 5);
        int[] wants = {3, 0, 7, 0, 0};
        for (int layer = 0; layer < 5; layer++) {
            DUE.is("28: layer " + layer, hall.layer(layer, 0), wants[layer]);
        }
        hall.hits(0, 1);
        DUE.is("28: the raw one stays as it was", hall.raw(1, 2), 3);
        DUE.is("28: none comes by it", hall.many(2), 2);
        DUE.is("28: it can fire", hall.fire(), 1);
        hall.mask(2, 0, 7);
        DUE.is("28: dead cells count", hall.again(0), 4);
    }

    private static void anew() {
        TriggerHall hall = new TriggerHall();
        hall.road(0, 0, 0, 0, 0, 1);
        Hall.keep(hall, "h1", 1);
        Hall.bar(hall, "h2", 1);
        Hall.feed(hall, "h3");
        hall.mask(1, 0, 2);
        hall.mask(1, 1, 4);
        hall.rest(2);
        Hall.fireWith(hall, 3);
        Hall.fireWith(hall, 1);
        Hall.fireWith(hall, 1);
        hall.hits(0, 9);
        DUE.is("29: anew()", hall.anew(), 3);
        int[] wants = {1, 2, 0, 0, 0, 0, 0, 0};
        for (int what = 0; what < wants.length; what++) {
            DUE.is("29: many(" + what + ")", hall.many(what), wants[what]);
        }
        int[][] ofs = {{1, 0, 0, 0, 0, 0, 2}, {1, 1, 0, 0, 0, 0, 2}};
        for (int line = 0; line < 2; line++) {
            for (int what = 0; what < 7; what++) {
                DUE.is("29: of(" + line + ", " + what + ")", hall.of(line, what), ofs[line][what]);
            }
        }
        DUE.is("29: no raw one", hall.raw(0, 0), TriggerHall.NUMBER);
        DUE.is("29: hits stay", hall.layer(0, 0), 9);
        DUE.is("29: dead cells stay", hall.layer(1, 2), 2);
        DUE.is("29: noisy cells stay", hall.layer(1, 3), 4);
        DUE.is("29: roads stay", hall.span(0, 0, 1), 0);
        DUE.is("29: the tape stays", hall.clear(), 2);
        DUE.is("29: numbers begin at 0", Hall.fireWith(hall, 1), 1);
        DUE.is("29: the number of the first one", hall.raw(0, 0), 0);
        DUE.is("29: rest stays", hall.many(7), 2);
        DUE.is("29: once more", hall.anew(), 1);
        DUE.is("29: and once more", hall.anew(), 0);
    }
}
