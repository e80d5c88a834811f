/** Promises 1 to 8. */
public final class HitsTest {
    private static final Due DUE = new Due("HitsTest");

    public static void main(String[] args) {
        newObject();
        sheet();
        cell();
        lose();
        hits();
        load();
        mask();
        layer();
        DUE.end();
    }

    private static void newObject() {
        TriggerHall hall = new TriggerHall();
        for (int layer = 0; layer < 5; layer++) {
            for (int what = 0; what < 4; what++) {
                DUE.is("1: layer(" + layer + ", " + what + ")", hall.layer(layer, what), 0);
            }
        }
        for (int what = 0; what < 8; what++) {
            DUE.is("1: many(" + what + ")", hall.many(what), 0);
        }
        for (int r = 0; r < 3; r++) {
            DUE.is("1: lose(" + r + ")", hall.lose(r), TriggerHall.MISSING);
        }
        DUE.is("1: lit()", hall.lit(), 0);
        DUE.is("1: blind()", hall.blind(), 0);
        DUE.is("1: heap(0)", hall.heap(0), 0);
        DUE.is("1: clear()", hall.clear(), 0);
        DUE.is("1: rest(0)", hall.rest(0), 0);
        DUE.is("1: held(0)", hall.held(0), TriggerHall.NUMBER);
        DUE.is("1: holds(0)", hall.holds(0), TriggerHall.NUMBER);
        DUE.is("1: raw(0, 0)", hall.raw(0, 0), TriggerHall.NUMBER);
        DUE.is("1: anew()", hall.anew(), 0);
        DUE.is("1: fire()", hall.fire(), 0);
    }

    private static void sheet() {
        TriggerHall hall = new TriggerHall();
        DUE.is("2: sheet(2, 2, 20)", hall.sheet(2, 2, 20), 1);
        DUE.is("2: its last number", hall.cell(2, 19, 1), 1);
        DUE.is("2: none behind it", hall.cell(2, 20, 1), TriggerHall.NUMBER);
        DUE.is("2: sheet(0, 1, 0)", hall.sheet(0, 1, 0), 1);
        DUE.is("2: an empty sheet has no number", hall.cell(0, 0, 1), TriggerHall.NUMBER);
        DUE.is("2: but is there", hall.lose(0), 1);
        DUE.is("2: r below", hall.sheet(-1, 0, 1), TriggerHall.NUMBER);
        DUE.is("2: r above", hall.sheet(3, 0, 1), TriggerHall.NUMBER);
        DUE.is("2: kind below", hall.sheet(0, -1, 1), TriggerHall.NUMBER);
        DUE.is("2: kind above", hall.sheet(0, 3, 1), TriggerHall.NUMBER);
        DUE.is("2: n below", hall.sheet(0, 0, -1), TriggerHall.SIZE);
        DUE.is("2: n least", hall.sheet(0, 0, Integer.MIN_VALUE), TriggerHall.SIZE);
        DUE.is("2: n above", hall.sheet(0, 0, 21), TriggerHall.NUMBER);
        DUE.is("2: r ahead of n", hall.sheet(3, 0, -1), TriggerHall.NUMBER);
        DUE.is("2: kind ahead of n", hall.sheet(0, 3, -1), TriggerHall.NUMBER);
        DUE.is("2: what is refused lays none", hall.lose(0), TriggerHall.MISSING);
        laidAnew(hall);
    }

    private static void laidAnew(TriggerHall hall) {
        hall.sheet(1, 2, 5);
        hall.cell(1, 0, 7);
        DUE.is("2: refused over a sheet", hall.sheet(1, 2, 21), TriggerHall.NUMBER);
        DUE.is("2: which stays", hall.load(1, 0), 3);
        hall.sheet(1, 2, 5);
        DUE.is("2: laid anew it is all 0", hall.load(1, 0), 0);
        hall.cell(1, 4, 1);
        hall.sheet(1, 2, 2);
        hall.sheet(1, 2, 5);
        DUE.is("2: shorter and longer again", hall.load(1, 0), 0);
        hall.cell(1, 0, 7);
        hall.lose(1);
        hall.sheet(1, 2, 5);
        DUE.is("2: lost and laid anew", hall.load(1, 0), 0);
        hall.sheet(1, 0, 5);
        hall.cell(1, 0, 256);
        DUE.is("2: its kind is the new one", hall.load(1, 0), 0);
    }

    private static void cell() {
        TriggerHall hall = new TriggerHall();
        for (int kind = 0; kind < 3; kind++) {
            hall.sheet(kind, kind, 5);
        }
        casts(hall, 0, 0x180, 0xFF80);
        casts(hall, 0, 0x17F, 0x7F);
        casts(hall, 0, 0x100, 0);
        casts(hall, 1, 0x18001, 0x8001);
        casts(hall, 1, 0x10000, 0);
        casts(hall, 2, 0x18001, 0x8001);
        casts(hall, 2, -1, 0xFFFF);
        DUE.is("3: r below", hall.cell(-1, 0, 1), TriggerHall.NUMBER);
        DUE.is("3: r above", hall.cell(3, 0, 1), TriggerHall.NUMBER);
        DUE.is("3: i below", hall.cell(0, -1, 1), TriggerHall.NUMBER);
        DUE.is("3: i above", hall.cell(0, 5, 1), TriggerHall.NUMBER);
        DUE.is("3: i greatest", hall.cell(0, Integer.MAX_VALUE, 1), TriggerHall.NUMBER);
        hall.lose(0);
        DUE.is("3: missing", hall.cell(0, 0, 1), TriggerHall.MISSING);
        DUE.is("3: missing ahead of i", hall.cell(0, -1, 1), TriggerHall.MISSING);
    }

    private static void casts(TriggerHall hall, int r, int v, int want) {
        DUE.is("3: cell(" + r + ", 0, " + v + ")", hall.cell(r, 0, v), 1);
        hall.load(r, 0);
        DUE.is("3: " + v + " in kind " + r, hall.layer(0, 0), want);
    }

    private static void lose() {
        TriggerHall hall = new TriggerHall();
        hall.sheet(0, 0, 1);
        hall.sheet(2, 0, 1);
        DUE.is("4: lose(2)", hall.lose(2), 1);
        DUE.is("4: lose(2) once more", hall.lose(2), TriggerHall.MISSING);
        DUE.is("4: another one stays", hall.cell(0, 0, 1), 1);
        DUE.is("4: r below", hall.lose(-1), TriggerHall.NUMBER);
        DUE.is("4: r above", hall.lose(3), TriggerHall.NUMBER);
    }

    private static void hits() {
        TriggerHall hall = new TriggerHall();
        DUE.is("5: hits(4, 65535)", hall.hits(4, 65535), 16);
        DUE.is("5: hits(0, 5)", hall.hits(0, 5), 2);
        DUE.is("5: bits above", hall.hits(0, 65536), TriggerHall.NUMBER);
        DUE.is("5: bits below", hall.hits(0, -1), TriggerHall.NUMBER);
        DUE.is("5: layer above", hall.hits(5, 0), TriggerHall.NUMBER);
        DUE.is("5: layer below", hall.hits(-1, 0), TriggerHall.NUMBER);
        DUE.is("5: they stay", hall.layer(0, 0), 5);
        DUE.is("5: they become others", hall.hits(0, 8), 1);
        DUE.is("5: and not both", hall.layer(0, 0), 8);
        hall.mask(0, 0, 8);
        DUE.is("5: hits of dead cells count", hall.hits(0, 8), 1);
    }

    private static void load() {
        TriggerHall hall = new TriggerHall();
        hall.sheet(0, 2, 7);
        for (int i = 0; i < 7; i++) {
            hall.cell(0, i, 0x70000 | 1 << i);
        }
        Hall.hits(hall, 65535, 65535, 65535, 65535, 65535);
        DUE.is("6: load(0, 1)", hall.load(0, 1), 5);
        for (int layer = 0; layer < 5; layer++) {
            DUE.is("6: layer " + layer, hall.layer(layer, 0), 2 << layer);
        }
        DUE.is("6: r below", hall.load(-1, 0), TriggerHall.NUMBER);
        DUE.is("6: r above", hall.load(3, 0), TriggerHall.NUMBER);
        DUE.is("6: i below", hall.load(0, -1), TriggerHall.NUMBER);
        DUE.is("6: i below ahead of missing", hall.load(1, -1), TriggerHall.NUMBER);
        DUE.is("6: missing", hall.load(1, 0), TriggerHall.MISSING);
        DUE.is("6: refused ones change nothing", hall.layer(4, 0), 32);
        DUE.is("6: past its end", hall.load(0, 5), 2);
        DUE.is("6: a layer without a number", hall.layer(2, 0), 0);
        hall.load(0, 0);
        DUE.is("6: none at all", hall.load(0, 7), 0);
        DUE.is("6: none at all is no hits", hall.layer(0, 0), 0);
        for (int less = 0; less < 5; less++) {
            hall.load(0, 0);
            DUE.is("6: i near the greatest int", hall.load(0, Integer.MAX_VALUE - less), 0);
        }
    }

    private static void mask() {
        TriggerHall hall = new TriggerHall();
        DUE.is("7: mask(1, 0, 65535)", hall.mask(1, 0, 65535), 0);
        DUE.is("7: mask(1, 0, 3)", hall.mask(1, 0, 3), 65535);
        DUE.is("7: mask(1, 1, 6)", hall.mask(1, 1, 6), 0);
        DUE.is("7: mask(1, 1, 4)", hall.mask(1, 1, 4), 6);
        DUE.is("7: layer above", hall.mask(5, 0, 0), TriggerHall.NUMBER);
        DUE.is("7: layer below", hall.mask(-1, 0, 0), TriggerHall.NUMBER);
        DUE.is("7: what above", hall.mask(1, 2, 0), TriggerHall.NUMBER);
        DUE.is("7: what below", hall.mask(1, -1, 0), TriggerHall.NUMBER);
        DUE.is("7: bits above", hall.mask(1, 0, 65536), TriggerHall.NUMBER);
        DUE.is("7: bits below", hall.mask(1, 1, -1), TriggerHall.NUMBER);
        DUE.is("7: dead ones stay", hall.layer(1, 2), 3);
        DUE.is("7: noisy ones stay", hall.layer(1, 3), 4);
    }

    private static void layer() {
        TriggerHall hall = new TriggerHall();
        hall.hits(3, 0b111111);
        hall.mask(3, 0, 0b000011);
        hall.mask(3, 1, 0b000110);
        DUE.is("8: hits", hall.layer(3, 0), 0b111111);
        DUE.is("8: seen", hall.layer(3, 1), 0b111000);
        DUE.is("8: dead", hall.layer(3, 2), 0b000011);
        DUE.is("8: noisy", hall.layer(3, 3), 0b000110);
        DUE.is("8: another layer", hall.layer(2, 2), 0);
        DUE.is("8: what above", hall.layer(3, 4), TriggerHall.NUMBER);
        DUE.is("8: what below", hall.layer(3, -1), TriggerHall.NUMBER);
        DUE.is("8: layer above", hall.layer(5, 0), TriggerHall.NUMBER);
        DUE.is("8: layer below", hall.layer(-1, 0), TriggerHall.NUMBER);
    }
}
