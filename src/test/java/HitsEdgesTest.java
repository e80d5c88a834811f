import java.util.function.Consumer;

/** Promises 1 to 8 at their edges: the last number that is allowed, the first that isn't, each refusal. */
public final class HitsEdgesTest {
    private static final Due DUE = new Due("HitsEdgesTest");
    private static final Twins TWINS = new Twins(DUE);
    private static final int NUMBER = TriggerHall.NUMBER;
    private static final int MISSING = TriggerHall.MISSING;
    private static final int SIZE = TriggerHall.SIZE;
    private static final int LEAST = Integer.MIN_VALUE;
    private static final int GREATEST = Integer.MAX_VALUE;

    public static void main(String[] args) {
        newObjectHasNothing();
        newObjectSharesNothing();
        sheetNumbersAndKinds();
        sheetLengths();
        sheetIsAllNought();
        sheetRefusals();
        sheetFirstRefusal();
        cellPlaces();
        cellCasts();
        cellRefusals();
        cellFirstRefusal();
        loseRefusals();
        hitsLayersAndBits();
        hitsRefusals();
        loadPlaces();
        loadWrapsRound();
        loadLowestBits();
        loadRefusals();
        loadFirstRefusal();
        maskLayersAndBits();
        maskRefusals();
        layerSeen();
        layerRefusals();
        DUE.end();
    }

    private static void newObjectHasNothing() {
        TriggerHall hall = new TriggerHall();
        for (int layer = 0; layer < 5; layer++) {
            for (int what = 0; what < 4; what++) {
                DUE.is("1: layer(" + layer + ", " + what + ")", hall.layer(layer, what), 0);
            }
        }
        for (int what = 0; what < 8; what++) {
            DUE.is("1: many(" + what + ")", hall.many(what), 0);
        }
        for (int r = 0; r < 3; r++) {
            DUE.is("1: cell of sheet " + r, hall.cell(r, 0, 0), MISSING);
            DUE.is("1: load of sheet " + r, hall.load(r, 0), MISSING);
            DUE.is("1: lose of sheet " + r, hall.lose(r), MISSING);
        }
        DUE.is("1: no road", hall.held(0), NUMBER);
        DUE.is("1: no line", hall.of(0, 0), NUMBER);
        DUE.is("1: no raw one", hall.again(0), NUMBER);
        DUE.is("1: the tape is empty", hall.feed(0), 0);
        DUE.is("1: an empty tape ends too soon", hall.line(1, false), TriggerHall.FAULT);
        DUE.is("1: no rest", hall.rest(0), 0);
        DUE.is("1: the first road is 0", hall.road(3, 3, 3, 3, 3, 1), 0);
        DUE.is("1: the first line is 0", Hall.keep(hall, "h0", 1), 0);
        DUE.is("1: the first crossing is looked at", hall.fire(), 1);
        DUE.is("1: its number is 0", hall.raw(0, 0), 0);
    }

    private static void newObjectSharesNothing() {
        TriggerHall other = new TriggerHall();
        States.full(other);
        newObjectHasNothing();
        TriggerHall hall = new TriggerHall();
        States.busy(hall);
        DUE.is("1: the other one's roads stay", other.many(0), 12);
        DUE.is("1: its hits", other.layer(4, 0), 65535);
        DUE.is("1: its masks", other.layer(0, 2), 0);
        DUE.is("1: its tape", other.feed(0), 60);
        DUE.is("1: its sheets", other.load(2, 19), 15);
    }

    private static void sheetNumbersAndKinds() {
        for (int r = 0; r < 3; r++) {
            for (int kind = 0; kind < 3; kind++) {
                TriggerHall hall = new TriggerHall();
                DUE.is("2: sheet(" + r + ", " + kind + ", 1)", hall.sheet(r, kind, 1), 1);
                for (int other = 0; other < 3; other++) {
                    DUE.is("2: it alone is there", hall.lose(other), other == r ? 1 : MISSING);
                }
            }
        }
    }

    private static void sheetLengths() {
        for (int n = 0; n <= 20; n++) {
            TriggerHall hall = new TriggerHall();
            DUE.is("2: sheet(0, 2, " + n + ")", hall.sheet(0, 2, n), 1);
            for (int i = 0; i <= 20; i++) {
                DUE.is("2: number " + i + " of " + n, hall.cell(0, i, 1), i < n ? 1 : NUMBER);
            }
        }
    }

    private static void sheetIsAllNought() {
        for (int kind = 0; kind < 3; kind++) {
            TriggerHall hall = new TriggerHall();
            hall.sheet(1, 2 - kind, 20);
            for (int i = 0; i < 20; i++) {
                hall.cell(1, i, -1);
            }
            hall.sheet(1, kind, 20);
            for (int i = 0; i < 20; i += 5) {
                DUE.is("2: all 0 from " + i, hall.load(1, i), 0);
            }
        }
    }

    private static void sheetRefusals() {
        for (int none : new int[] {-1, 3, LEAST, GREATEST}) {
            TWINS.refused("2: r " + none, NUMBER, hall -> hall.sheet(none, 0, 1));
            TWINS.refused("2: kind " + none, NUMBER, hall -> hall.sheet(0, none, 1));
        }
        for (int r = 0; r < 3; r++) {
            int sheet = r;
            TWINS.refused("2: n -1, sheet " + r, SIZE, hall -> hall.sheet(sheet, 0, -1));
            TWINS.refused("2: n least, sheet " + r, SIZE, hall -> hall.sheet(sheet, 1, LEAST));
            TWINS.refused("2: n 21, sheet " + r, NUMBER, hall -> hall.sheet(sheet, 2, 21));
            TWINS.refused("2: n greatest, sheet " + r, NUMBER, hall -> hall.sheet(sheet, 0, GREATEST));
        }
    }

    private static void sheetFirstRefusal() {
        TWINS.refused("2: r below ahead of SIZE", NUMBER, hall -> hall.sheet(-1, 0, -1));
        TWINS.refused("2: r above ahead of SIZE", NUMBER, hall -> hall.sheet(3, 0, -1));
        TWINS.refused("2: kind below ahead of SIZE", NUMBER, hall -> hall.sheet(0, -1, -1));
        TWINS.refused("2: kind above ahead of SIZE", NUMBER, hall -> hall.sheet(0, 3, -1));
        TWINS.refused("2: all wrong", NUMBER, hall -> hall.sheet(3, 3, 21));
    }

    private static void cellPlaces() {
        TriggerHall hall = new TriggerHall();
        hall.sheet(0, 2, 20);
        DUE.is("3: the first number", hall.cell(0, 0, 1), 1);
        DUE.is("3: the last number", hall.cell(0, 19, 2), 1);
        hall.load(0, 0);
        DUE.is("3: the first one is it", hall.layer(0, 0), 1);
        DUE.is("3: and not the next one", hall.layer(1, 0), 0);
        hall.load(0, 15);
        DUE.is("3: the last one is it", hall.layer(4, 0), 2);
        DUE.is("3: and not the one ahead", hall.layer(3, 0), 0);
        DUE.is("3: a number becomes another one", hall.cell(0, 0, 4), 1);
        DUE.is("3: and not both", hall.load(0, 0), 1);
    }

    private static void cellCasts() {
        casts(0, 127, 0x007F);
        casts(0, 128, 0xFF80);
        casts(0, 255, 0xFFFF);
        casts(0, 256, 0);
        casts(0, -1, 0xFFFF);
        casts(0, -128, 0xFF80);
        casts(0, -129, 0x007F);
        casts(0, GREATEST, 0xFFFF);
        casts(0, LEAST, 0);
        casts(1, 128, 0x0080);
        casts(1, 32767, 0x7FFF);
        casts(1, 32768, 0x8000);
        casts(1, 65535, 0xFFFF);
        casts(1, 65536, 0);
        casts(1, -32768, 0x8000);
        casts(1, -32769, 0x7FFF);
        casts(2, 65535, 0xFFFF);
        casts(2, 65536, 0);
        casts(2, GREATEST, 0xFFFF);
        casts(2, LEAST, 0);
    }

    private static void casts(int kind, int v, int want) {
        for (int r = 0; r < 3; r++) {
            TriggerHall hall = new TriggerHall();
            hall.sheet(r, kind, 1);
            DUE.is("3: cell(" + r + ", 0, " + v + ")", hall.cell(r, 0, v), 1);
            DUE.is("3: bits of " + v + " in kind " + kind, hall.load(r, 0), Integer.bitCount(want));
            DUE.is("3: " + v + " in kind " + kind, hall.layer(0, 0), want);
        }
    }

    private static void cellRefusals() {
        for (int none : new int[] {-1, 3, LEAST, GREATEST}) {
            TWINS.refused("3: r " + none, NUMBER, hall -> hall.cell(none, 0, 1));
        }
        Consumer<TriggerHall> sheets = hall -> {
            hall.sheet(0, 0, 0);
            hall.sheet(1, 1, 4);
            hall.sheet(2, 2, 20);
            hall.cell(2, 19, 7);
        };
        TWINS.leavesAll(sheets, "3: i 0 of none", NUMBER, hall -> hall.cell(0, 0, 1));
        TWINS.leavesAll(sheets, "3: i 4 of 4", NUMBER, hall -> hall.cell(1, 4, 1));
        TWINS.leavesAll(sheets, "3: i 20 of 20", NUMBER, hall -> hall.cell(2, 20, 1));
        for (int none : new int[] {-1, LEAST, GREATEST, LEAST + 19}) {
            TWINS.leavesAll(sheets, "3: i " + none, NUMBER, hall -> hall.cell(2, none, 1));
        }
        TWINS.leavesAll(States::nearlyFull, "3: MISSING", MISSING, hall -> hall.cell(0, 0, 1));
        TWINS.leavesAll(States::busy, "3: MISSING beside others", MISSING, hall -> hall.cell(2, 0, 1));
        Consumer<TriggerHall> lost = sheets.andThen(hall -> hall.lose(2));
        TWINS.leavesAll(lost, "3: MISSING as it is lost", MISSING, hall -> hall.cell(2, 19, 1));
    }

    private static void cellFirstRefusal() {
        TWINS.refused("3: r ahead of MISSING and i", NUMBER, hall -> hall.cell(3, -1, 1));
        TWINS.leavesAll(States::busy, "3: MISSING ahead of i below", MISSING, hall -> hall.cell(2, -1, 1));
        TWINS.leavesAll(States::busy, "3: MISSING ahead of i above", MISSING, hall -> hall.cell(2, 20, 1));
    }

    private static void loseRefusals() {
        for (int none : new int[] {-1, 3, LEAST, GREATEST}) {
            TWINS.refused("4: r " + none, NUMBER, hall -> hall.lose(none));
        }
        for (int r = 0; r < 3; r++) {
            int sheet = r;
            TWINS.leavesAll(States::nearlyFull, "4: MISSING " + r, MISSING, hall -> hall.lose(sheet));
            TriggerHall hall = new TriggerHall();
            States.full(hall);
            DUE.is("4: lose(" + r + ")", hall.lose(r), 1);
            DUE.is("4: MISSING then", hall.lose(r), MISSING);
            DUE.is("4: its neighbour stays", hall.lose((r + 1) % 3), 1);
        }
        TWINS.leavesAll(States::busy, "4: MISSING beside others", MISSING, hall -> hall.lose(2));
        TriggerHall empty = new TriggerHall();
        empty.sheet(0, 0, 0);
        DUE.is("4: one without numbers is there", empty.lose(0), 1);
    }

    private static void hitsLayersAndBits() {
        for (int layer = 0; layer < 5; layer++) {
            TriggerHall hall = new TriggerHall();
            DUE.is("5: all of layer " + layer, hall.hits(layer, 65535), 16);
            for (int other = 0; other < 5; other++) {
                DUE.is("5: layer " + other, hall.layer(other, 0), other == layer ? 65535 : 0);
            }
            DUE.is("5: the last cell", hall.hits(layer, 32768), 1);
            DUE.is("5: the first cell", hall.hits(layer, 1), 1);
            DUE.is("5: and no other", hall.layer(layer, 0), 1);
            DUE.is("5: none", hall.hits(layer, 0), 0);
            DUE.is("5: none then", hall.layer(layer, 0), 0);
        }
    }

    private static void hitsRefusals() {
        for (int none : new int[] {-1, 5, LEAST, GREATEST}) {
            TWINS.refused("5: layer " + none, NUMBER, hall -> hall.hits(none, 1));
        }
        for (int none : new int[] {-1, 65536, LEAST, GREATEST, 65537, -65536}) {
            TWINS.refused("5: bits " + none, NUMBER, hall -> hall.hits(0, none));
            TWINS.refused("5: bits " + none + " of the last layer", NUMBER, hall -> hall.hits(4, none));
        }
    }

    private static void loadPlaces() {
        for (int n : new int[] {0, 1, 4, 5, 6, 19, 20}) {
            for (int i = 0; i <= 21; i++) {
                loads(n, i);
            }
        }
    }

    /** Number j is bit j % 16 alone, so each layer tells which number came. */
    private static void loads(int n, int i) {
        TriggerHall hall = new TriggerHall();
        hall.sheet(1, 2, n);
        for (int j = 0; j < n; j++) {
            hall.cell(1, j, 1 << j % 16);
        }
        Hall.hits(hall, 65535, 65535, 65535, 65535, 65535);
        DUE.is("6: load(1, " + i + ") of " + n, hall.load(1, i), Math.max(0, Math.min(5, n - i)));
        for (int layer = 0; layer < 5; layer++) {
            int want = i + layer < n ? 1 << (i + layer) % 16 : 0;
            DUE.is("6: layer " + layer + " from " + i + " of " + n, hall.layer(layer, 0), want);
        }
    }

    private static void loadWrapsRound() {
        for (int less = 0; less <= 5; less++) {
            TriggerHall hall = new TriggerHall();
            States.full(hall);
            DUE.is("6: the greatest i less " + less, hall.load(0, GREATEST - less), 0);
            for (int layer = 0; layer < 5; layer++) {
                DUE.is("6: no hits in layer " + layer, hall.layer(layer, 0), 0);
            }
        }
    }

    private static void loadLowestBits() {
        TriggerHall hall = new TriggerHall();
        hall.sheet(2, 2, 5);
        int[] numbers = {0x10000, 0x1FFFF, 0x8000, -65536, -1};
        int[] wants = {0, 0xFFFF, 0x8000, 0, 0xFFFF};
        for (int i = 0; i < 5; i++) {
            hall.cell(2, i, numbers[i]);
        }
        DUE.is("6: how many", hall.load(2, 0), 33);
        for (int layer = 0; layer < 5; layer++) {
            DUE.is("6: the lowest 16 bits of " + numbers[layer], hall.layer(layer, 0), wants[layer]);
        }
    }

    private static void loadRefusals() {
        for (int none : new int[] {-1, 3, LEAST, GREATEST}) {
            TWINS.refused("6: r " + none, NUMBER, hall -> hall.load(none, 0));
        }
        for (int none : new int[] {-1, -5, LEAST}) {
            TWINS.refused("6: i " + none, NUMBER, hall -> hall.load(0, none));
        }
        TWINS.leavesAll(States::nearlyFull, "6: MISSING", MISSING, hall -> hall.load(0, 0));
        TWINS.leavesAll(States::busy, "6: MISSING beside others", MISSING, hall -> hall.load(2, GREATEST));
    }

    private static void loadFirstRefusal() {
        TWINS.refused("6: r ahead of MISSING", NUMBER, hall -> hall.load(3, 0));
        TWINS.leavesAll(States::nearlyFull, "6: i ahead of MISSING", NUMBER, hall -> hall.load(0, -1));
        TWINS.leavesAll(States::busy, "6: i ahead of MISSING", NUMBER, hall -> hall.load(2, -1));
    }

    private static void maskLayersAndBits() {
        for (int layer = 0; layer < 5; layer++) {
            for (int what = 0; what < 2; what++) {
                TriggerHall hall = new TriggerHall();
                DUE.is("7: none at first", hall.mask(layer, what, 65535), 0);
                for (int other = 0; other < 5; other++) {
                    DUE.is("7: " + what + " of " + other, hall.layer(other, 2 + what), other == layer ? 65535 : 0);
                    DUE.is("7: not the other ones", hall.layer(other, 3 - what), 0);
                }
                DUE.is("7: all", hall.mask(layer, what, 32768), 65535);
                DUE.is("7: the last cell", hall.mask(layer, what, 1), 32768);
                DUE.is("7: the first cell", hall.mask(layer, what, 0), 1);
                DUE.is("7: none again", hall.mask(layer, what, 0), 0);
            }
        }
    }

    private static void maskRefusals() {
        for (int none : new int[] {-1, 5, LEAST, GREATEST}) {
            TWINS.refused("7: layer " + none, NUMBER, hall -> hall.mask(none, 0, 1));
        }
        for (int none : new int[] {-1, 2, LEAST, GREATEST}) {
            TWINS.refused("7: what " + none, NUMBER, hall -> hall.mask(0, none, 6));
        }
        for (int none : new int[] {-1, 65536, LEAST, GREATEST}) {
            TWINS.refused("7: bits " + none, NUMBER, hall -> hall.mask(0, 0, none));
            TWINS.refused("7: noisy bits " + none, NUMBER, hall -> hall.mask(4, 1, none));
        }
    }

    private static void layerSeen() {
        for (int layer = 0; layer < 5; layer++) {
            for (int cell : new int[] {0, 15}) {
                for (int dead = 0; dead < 2; dead++) {
                    for (int noisy = 0; noisy < 2; noisy++) {
                        TriggerHall hall = new TriggerHall();
                        hall.hits(layer, 1 << cell);
                        hall.mask(layer, 0, dead << cell);
                        hall.mask(layer, 1, noisy << cell);
                        int seen = dead == 0 && noisy == 0 ? 1 << cell : 0;
                        DUE.is("8: seen, dead " + dead + ", noisy " + noisy, hall.layer(layer, 1), seen);
                        DUE.is("8: hits all the same", hall.layer(layer, 0), 1 << cell);
                        DUE.is("8: dead", hall.layer(layer, 2), dead << cell);
                        DUE.is("8: noisy", hall.layer(layer, 3), noisy << cell);
                    }
                }
            }
        }
        TriggerHall hall = new TriggerHall();
        hall.mask(2, 0, 6);
        hall.hits(2, 14);
        DUE.is("8: hits that come behind a mask", hall.layer(2, 1), 8);
    }

    private static void layerRefusals() {
        for (int none : new int[] {-1, 5, LEAST, GREATEST}) {
            TWINS.refused("8: layer " + none, NUMBER, hall -> hall.layer(none, 0));
        }
        for (int none : new int[] {-1, 4, LEAST, GREATEST}) {
            TWINS.refused("8: what " + none, NUMBER, hall -> hall.layer(0, none));
            TWINS.refused("8: what " + none + " of the last layer", NUMBER, hall -> hall.layer(4, none));
        }
    }
}
