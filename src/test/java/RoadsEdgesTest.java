/** Promises 9 to 17 at their edges: the last number that is allowed, the first that isn't, each refusal. */
public final class RoadsEdgesTest {
    private static final Due DUE = new Due("RoadsEdgesTest");
    private static final Twins TWINS = new Twins(DUE);
    private static final int NUMBER = TriggerHall.NUMBER;
    private static final int FULL = TriggerHall.FULL;
    private static final int NONE = TriggerHall.NONE;
    private static final int LEAST = Integer.MIN_VALUE;
    private static final int GREATEST = Integer.MAX_VALUE;
    private static final int[] NO_SPANS = {-1, 4, 100, 1115, 1216, 1316, 1514, 1516, 1600, 1616, LEAST, GREATEST};

    public static void main(String[] args) {
        everySpanThatIsTold();
        roadNeeds();
        roadsAtMost();
        roadRefusals();
        spanOfEachRoadAndLayer();
        spanRefusals();
        heldAtTheEdgesOfSpans();
        heldRefusals();
        litByNeeds();
        trackOfOneLayer();
        trackOfTwoLayers();
        trackOfSeveralAlike();
        trackToTheLastCell();
        trackRefusals();
        missOfFewLayers();
        missIsCleared();
        missRefusals();
        weightAboutNought();
        weightWholePart();
        weightRefusals();
        heapOfWeightsAboutNought();
        heapOfCellsTwice();
        heapOfSeveralAlike();
        heapOfAnotherLook();
        heapRefusals();
        blindByDeadCells();
        blindInEachCell();
        DUE.end();
    }

    private static boolean isSpan(int told) {
        for (int a = 0; a <= 15; a++) {
            for (int b = a; b <= Math.min(15, a + 3); b++) {
                if (told == 100 * a + b) return true;
            }
        }
        return false;
    }

    private static int roadWith(TriggerHall hall, int layer, int told, int need) {
        int[] s = {3, 3, 3, 3, 3};
        s[layer] = told;
        return hall.road(s[0], s[1], s[2], s[3], s[4], need);
    }

    private static void everySpanThatIsTold() {
        for (int told = -320; told <= 2000; told++) {
            for (int layer = 0; layer < 5; layer++) {
                TriggerHall hall = new TriggerHall();
                int want = isSpan(told) ? 0 : NUMBER;
                DUE.is("9: span " + told + " of layer " + layer, roadWith(hall, layer, told, 1), want);
                DUE.is("9: many then", hall.many(0), isSpan(told) ? 1 : 0);
                hall.road(3, 3, 3, 3, 3, 1);
                int last = hall.many(0) - 1;
                DUE.is("10: span " + told, hall.span(last, layer, told), isSpan(told) ? 3 : NUMBER);
                DUE.is("10: what it was, " + told, hall.span(last, layer, 0), isSpan(told) ? told : 3);
            }
        }
    }

    private static void roadNeeds() {
        for (int need = -1; need <= 7; need++) {
            TriggerHall hall = new TriggerHall();
            boolean right = need >= 1 && need <= 5;
            DUE.is("9: need " + need, roadWith(hall, 0, 3, need), right ? 0 : NUMBER);
        }
    }

    private static void roadsAtMost() {
        TriggerHall hall = new TriggerHall();
        for (int n = 0; n < 12; n++) {
            DUE.is("9: road " + n, roadWith(hall, 0, 101 * n, 1), n);
            DUE.is("9: so many", hall.many(0), n + 1);
        }
        DUE.is("9: a 13th", roadWith(hall, 0, 3, 1), FULL);
        DUE.is("9: still twelve", hall.many(0), 12);
        for (int n = 0; n < 12; n++) {
            DUE.is("9: the span of road " + n, hall.span(n, 0, 3), 101 * n);
        }
    }

    private static void roadRefusals() {
        // in a full hall too, as NUMBER is named ahead of FULL
        for (int none : NO_SPANS) {
            for (int layer = 0; layer < 5; layer++) {
                int at = layer;
                TWINS.refused("9: span " + none + " of layer " + at, NUMBER, hall -> roadWith(hall, at, none, 1));
            }
        }
        for (int none : new int[] {0, 6, -1, LEAST, GREATEST}) {
            TWINS.refused("9: need " + none, NUMBER, hall -> roadWith(hall, 0, 3, none));
        }
        TWINS.leavesAll(States::full, "9: a 13th", FULL, hall -> roadWith(hall, 0, 3, 1));
        TWINS.leavesAll(States::full, "9: a 13th of edges", FULL, hall -> hall.road(0, 1215, 1515, 912, 3, 5));
    }

    private static void spanOfEachRoadAndLayer() {
        for (int road = 0; road < 12; road++) {
            for (int layer = 0; layer < 5; layer++) {
                TriggerHall hall = new TriggerHall();
                for (int n = 0; n < 12; n++) {
                    hall.road(0, 101, 202, 303, 404, 1);
                }
                DUE.is("10: it was", hall.span(road, layer, 1215), 101 * layer);
                for (int n = 0; n < 60; n++) {
                    int want = n == 5 * road + layer ? 1215 : 101 * (n % 5);
                    DUE.is("10: it alone is another one", hall.span(n / 5, n % 5, 3), want);
                }
            }
        }
    }

    private static void spanRefusals() {
        TWINS.leavesAll(hall -> { }, "10: there is no road", NUMBER, hall -> hall.span(0, 0, 3));
        TWINS.leavesAll(States::busy, "10: road 3 of 3", NUMBER, hall -> hall.span(3, 0, 3));
        TWINS.leavesAll(States::nearlyFull, "10: road 11 of 11", NUMBER, hall -> hall.span(11, 0, 3));
        for (int none : new int[] {-1, 12, LEAST, GREATEST}) {
            TWINS.refused("10: road " + none, NUMBER, hall -> hall.span(none, 0, 3));
        }
        for (int none : new int[] {-1, 5, LEAST, GREATEST}) {
            TWINS.refused("10: layer " + none, NUMBER, hall -> hall.span(0, none, 3));
        }
        for (int none : NO_SPANS) {
            TWINS.refused("10: span " + none, NUMBER, hall -> hall.span(0, 0, none));
            TWINS.refused("10: span " + none + " of the last layer", NUMBER, hall -> hall.span(2, 4, none));
        }
    }

    private static void heldAtTheEdgesOfSpans() {
        for (int a = 0; a <= 15; a++) {
            for (int b = a; b <= Math.min(15, a + 3); b++) {
                for (int layer = 0; layer < 5; layer++) {
                    TriggerHall hall = new TriggerHall();
                    roadWith(hall, layer, 100 * a + b, 1);
                    for (int cell = 0; cell < 16; cell++) {
                        hall.hits(layer, 1 << cell);
                        int want = a <= cell && cell <= b ? 1 << layer : 0;
                        DUE.is("12: cell " + cell + " of " + a + " to " + b, hall.held(0), want);
                        DUE.is("11: and lit", hall.lit(), want == 0 ? 0 : 1);
                    }
                }
            }
        }
    }

    private static void heldRefusals() {
        for (int none : new int[] {-1, 12, LEAST, GREATEST}) {
            TWINS.refused("12: road " + none, NUMBER, hall -> hall.held(none));
        }
        TWINS.leavesAll(hall -> { }, "12: there is no road", NUMBER, hall -> hall.held(0));
        TWINS.leavesAll(States::busy, "12: road 3 of 3", NUMBER, hall -> hall.held(3));
        TWINS.leavesAll(States::nearlyFull, "12: road 11 of 11", NUMBER, hall -> hall.held(11));
        TriggerHall hall = new TriggerHall();
        States.full(hall);
        DUE.is("12: the last of twelve", hall.held(11), 31);
    }

    private static void litByNeeds() {
        for (int layers = 0; layers < 32; layers++) {
            TriggerHall hall = new TriggerHall();
            for (int need = 1; need <= 5; need++) {
                hall.road(3, 3, 3, 3, 3, need);
            }
            for (int layer = 0; layer < 5; layer++) {
                hall.hits(layer, layers >> layer & 1);
            }
            int want = (1 << Integer.bitCount(layers)) - 1;
            DUE.is("11: needs 1 to 5, layers " + layers, hall.lit(), want);
            for (int need = 1; need <= 5; need++) {
                DUE.is("12: held", hall.held(need - 1), layers);
                boolean lit = need <= Integer.bitCount(layers);
                DUE.is("15: lit or NONE", hall.weight(need - 1), lit ? 100 * Integer.bitCount(layers) : NONE);
            }
        }
        TriggerHall hall = new TriggerHall();
        DUE.is("11: no road", hall.lit(), 0);
    }

    private static void trackOfOneLayer() {
        for (int layer = 0; layer < 5; layer++) {
            for (int a = 0; a <= 12; a++) {
                TriggerHall hall = new TriggerHall();
                roadWith(hall, layer, 101 * a + 3, 1);
                for (int seen = 1; seen < 16; seen++) {
                    hall.hits(layer, seen << a);
                    int least = a + Integer.numberOfTrailingZeros(seen);
                    DUE.is("13: the least of " + seen + " from " + a, hall.track(0, layer), least);
                    DUE.is("13: no other layer", hall.track(0, (layer + 1) % 5), NONE);
                }
            }
        }
    }

    private static void trackOfTwoLayers() {
        for (int first = 0; first < 4; first++) {
            for (int second = first + 1; second < 5; second++) {
                TriggerHall hall = new TriggerHall();
                hall.road(1215, 1215, 1215, 1215, 1215, 2);
                hall.hits(first, 0xA000);
                hall.hits(second, 0xC000);
                DUE.is("13: the least of the first layer", hall.track(0, first), 13);
                DUE.is("13: the least of the second layer", hall.track(0, second), 14);
                DUE.is("14: a line through two", hall.miss(0, 0), 0);
                DUE.is("15: two layers", hall.weight(0), 200);
            }
        }
    }

    /** Beside a line at cell 1, cells 0 and 2 of any layer miss alike. */
    private static void trackOfSeveralAlike() {
        for (int layer = 0; layer < 5; layer++) {
            TriggerHall hall = new TriggerHall();
            hall.road(3, 3, 3, 3, 3, 5);
            Hall.hits(hall, 2, 2, 2, 2, 2);
            hall.hits(layer, 0b101);
            DUE.is("13: the lesser cell of layer " + layer, hall.track(0, layer), 0);
            hall.hits(layer, 0b100);
            int above = hall.miss(0, 0);
            int below = hall.miss(0, 1);
            hall.hits(layer, 0b001);
            DUE.is("14: alike above", hall.miss(0, 0), above);
            DUE.is("14: alike below", hall.miss(0, 1), below);
            hall.hits(layer, 0b111);
            DUE.is("13: the least miss is ahead of the lesser cell", hall.track(0, layer), 1);
            for (int later = layer + 1; later < 5; later++) {
                Hall.hits(hall, 2, 2, 2, 2, 2);
                hall.hits(layer, 0b101);
                hall.hits(later, 0b101);
                DUE.is("13: the first layer unlike, ahead of " + later, hall.track(0, layer), 0);
            }
        }
    }

    private static void trackToTheLastCell() {
        for (int layer = 0; layer < 5; layer++) {
            for (int a : new int[] {0, 5, 12}) {
                TriggerHall hall = new TriggerHall();
                int span = 101 * a + 3;
                hall.road(span, span, span, span, span, 5);
                int last = 8 << a;
                Hall.hits(hall, last, last, last, last, last);
                hall.hits(layer, 9 << a);
                DUE.is("13: the last cell of a span, layer " + layer, hall.track(0, layer), a + 3);
                DUE.is("14: in a line with the others", hall.miss(0, 0), 0);
                int first = 1 << a;
                Hall.hits(hall, first, first, first, first, first);
                hall.hits(layer, 15 << a);
                DUE.is("13: the first cell of a span, layer " + layer, hall.track(0, layer), a);
            }
        }
    }

    private static void trackRefusals() {
        for (int none : new int[] {-1, 12, LEAST, GREATEST}) {
            TWINS.refused("13: road " + none, NUMBER, hall -> hall.track(none, 0));
        }
        for (int none : new int[] {-1, 5, LEAST, GREATEST}) {
            TWINS.refused("13: layer " + none, NUMBER, hall -> hall.track(0, none));
        }
        TWINS.leavesAll(States::busy, "13: road 3 of 3", NUMBER, hall -> hall.track(3, 0));
        TWINS.leavesAll(RoadsEdgesTest::dark, "13: not lit", NONE, hall -> hall.track(0, 0));
        TWINS.leavesAll(RoadsEdgesTest::dark, "13: layer 5 ahead of NONE", NUMBER, hall -> hall.track(0, 5));
        TWINS.leavesAll(RoadsEdgesTest::dark, "13: layer -1 ahead of NONE", NUMBER, hall -> hall.track(0, -1));
        TWINS.leavesAll(RoadsEdgesTest::lit, "13: a layer that isn't held", NONE, hall -> hall.track(0, 4));
    }

    /** A road that needs three layers, with two of them. */
    private static void dark(TriggerHall hall) {
        hall.road(3, 3, 3, 3, 3, 3);
        Hall.hits(hall, 1, 2);
    }

    /** The same one, with a third layer. */
    private static void lit(TriggerHall hall) {
        dark(hall);
        hall.hits(2, 4);
    }

    private static void missOfFewLayers() {
        for (int layers = 1; layers < 32; layers++) {
            if (Integer.bitCount(layers) > 2) continue;
            TriggerHall hall = new TriggerHall();
            hall.road(0, 1515, 0, 1515, 0, 1);
            for (int layer = 0; layer < 5; layer++) {
                hall.hits(layer, (layers >> layer & 1) * 0x8001);
            }
            DUE.is("14: above, layers " + layers, hall.miss(0, 0), 0);
            DUE.is("14: below, layers " + layers, hall.miss(0, 1), 1);
        }
        TriggerHall straight = new TriggerHall();
        straight.road(3, 306, 609, 912, 1215, 5);
        Hall.hits(straight, 1 << 3, 1 << 6, 1 << 9, 1 << 12, 1 << 15);
        DUE.is("14: 0 above for five in a line", straight.miss(0, 0), 0);
        DUE.is("14: 1 below for five in a line", straight.miss(0, 1), 1);
    }

    private static void missIsCleared() {
        misses(270, 1, 15, 0, 15, 0, 15);
        misses(270, 1, 0, 15, 0, 15, 0);
        misses(40, 1, 10, 0, 0, -1, 0);
        misses(499, 10, 1, 9, 0, 0, 0);
        misses(392, 13, 12, 2, -1, -1, 0);
        misses(1, 6, 0, 0, 1, -1, -1);
        misses(1, 14, -1, 0, 0, -1, 1);
        misses(1, 26, 1, -1, -1, 0, 0);
    }

    private static void misses(int above, int below, int... cells) {
        TriggerHall hall = alone(cells);
        DUE.is("14: above " + above + " / " + below, hall.miss(0, 0), above);
        DUE.is("14: below " + above + " / " + below, hall.miss(0, 1), below);
    }

    private static void missRefusals() {
        for (int none : new int[] {-1, 12, LEAST, GREATEST}) {
            TWINS.refused("14: road " + none, NUMBER, hall -> hall.miss(none, 0));
        }
        for (int none : new int[] {-1, 2, LEAST, GREATEST}) {
            TWINS.refused("14: what " + none, NUMBER, hall -> hall.miss(0, none));
            TWINS.leavesAll(RoadsEdgesTest::dark, "14: what ahead of NONE", NUMBER, hall -> hall.miss(0, none));
        }
        TWINS.leavesAll(States::busy, "14: road 3 of 3", NUMBER, hall -> hall.miss(3, 0));
        TWINS.leavesAll(RoadsEdgesTest::dark, "14: not lit, above", NONE, hall -> hall.miss(0, 0));
        TWINS.leavesAll(RoadsEdgesTest::dark, "14: not lit, below", NONE, hall -> hall.miss(0, 1));
    }

    private static void weightAboutNought() {
        weighs(2, 0, 8, -1, 1, 0);
        weighs(1, 1, 9, 0, 0, 0);
        weighs(0, 10, 0, 0, -1, 0);
        weighs(0, 11, 15, -1, 0, 0);
        weighs(0, 12, 2, -1, -1, 0);
        weighs(0, 15, 0, 15, 0, 15);
        weighs(100, -1, -1, -1, -1, 15);
        weighs(500, 15, 15, 15, 15, 15);
    }

    private static void weightWholePart() {
        // 10 times 1/6, 2/3, 1/14 and 1/10
        weighs(299, 0, 0, 1, -1, -1);
        weighs(294, 0, 1, 0, -1, -1);
        weighs(300, -1, 0, 0, -1, 1);
        weighs(497, 1, 2, 3, 5, 6);
    }

    private static void weighs(int want, int... cells) {
        TriggerHall hall = alone(cells);
        StringBuilder told = new StringBuilder("15: weight of");
        for (int cell : cells) {
            told.append(' ').append(cell);
        }
        DUE.is(told.toString(), hall.weight(0), want);
    }

    /** A hall with one road, of these cells alone, -1 for a layer that isn't held. */
    private static TriggerHall alone(int... cells) {
        TriggerHall hall = new TriggerHall();
        int[] spans = new int[5];
        for (int layer = 0; layer < 5; layer++) {
            spans[layer] = 101 * Math.max(cells[layer], 0);
            hall.hits(layer, cells[layer] < 0 ? 0 : 1 << cells[layer]);
        }
        hall.road(spans[0], spans[1], spans[2], spans[3], spans[4], 1);
        return hall;
    }

    private static void weightRefusals() {
        for (int none : new int[] {-1, 12, LEAST, GREATEST}) {
            TWINS.refused("15: road " + none, NUMBER, hall -> hall.weight(none));
        }
        TWINS.leavesAll(States::busy, "15: road 3 of 3", NUMBER, hall -> hall.weight(3));
        TWINS.leavesAll(RoadsEdgesTest::dark, "15: not lit", NONE, hall -> hall.weight(0));
        TriggerHall hall = new TriggerHall();
        lit(hall);
        DUE.is("15: lit", hall.weight(0), 300);
    }

    private static void heaps(TriggerHall hall, String what, int roads, int weights) {
        DUE.is("16: roads, " + what, hall.heap(0), roads);
        DUE.is("16: how many, " + what, hall.heap(1), Integer.bitCount(roads));
        DUE.is("16: weights, " + what, hall.heap(2), weights);
    }

    private static void heapOfWeightsAboutNought() {
        heaps(new TriggerHall(), "no road", 0, 0);
        heaps(alone(1, 9, 0, 0, 0), "a weight of 1", 1, 1);
        heaps(alone(10, 0, 0, -1, 0), "a weight of 0", 0, 0);
        heaps(alone(15, 0, 15, 0, 15), "far below 0", 0, 0);
    }

    private static void heapOfCellsTwice() {
        for (int layer = 0; layer < 5; layer++) {
            for (int cell : new int[] {0, 15}) {
                TriggerHall hall = new TriggerHall();
                roadAt(hall, layer, cell);
                roadAt(hall, layer, cell);
                roadAt(hall, (layer + 1) % 5, cell);
                roadAt(hall, layer, 15 - cell);
                hall.hits(layer, 0x8001);
                hall.hits((layer + 1) % 5, 1 << cell);
                // road 1 has the cell of road 0; another layer's cell of that number is another one
                heaps(hall, "cell " + cell + " of layer " + layer, 0b1101, 300);
            }
        }
        TriggerHall all = new TriggerHall();
        for (int n = 0; n < 12; n++) {
            all.road(3, 3, 3, 3, 3, 1);
        }
        Hall.hits(all, 65535, 65535, 65535, 65535, 65535);
        heaps(all, "twelve alike", 1, 500);
    }

    /** A road that holds with one cell of one layer, and elsewhere where nothing is seen. */
    private static void roadAt(TriggerHall hall, int layer, int cell) {
        int[] s = {707, 707, 707, 707, 707};
        s[layer] = 101 * cell;
        hall.road(s[0], s[1], s[2], s[3], s[4], 1);
    }

    /** Two roads of one side clash with both of the other, and weigh the same. */
    private static void heapOfSeveralAlike() {
        int[][] sides = {{0, 1, 2, 3}, {0, 2, 1, 3}, {0, 3, 1, 2}, {1, 2, 0, 3}, {1, 3, 0, 2}, {2, 3, 0, 1}};
        int[] wants = {0b0011, 0b0101, 0b0110, 0b0110, 0b0101, 0b0011};
        for (int n = 0; n < sides.length; n++) {
            int[][] layers = new int[4][];
            layers[sides[n][0]] = new int[] {0, 0, 707, 707, 707};
            layers[sides[n][1]] = new int[] {707, 707, 0, 0, 707};
            layers[sides[n][2]] = new int[] {0, 707, 0, 707, 707};
            layers[sides[n][3]] = new int[] {707, 0, 707, 0, 707};
            TriggerHall hall = new TriggerHall();
            for (int[] s : layers) {
                hall.road(s[0], s[1], s[2], s[3], s[4], 1);
            }
            Hall.hits(hall, 1, 1, 1, 1);
            heaps(hall, "the least as bits, " + n, wants[n], 400);
        }
        TriggerHall two = new TriggerHall();
        two.road(0, 707, 707, 707, 707, 1);
        two.road(707, 0, 707, 707, 707, 1);
        two.road(0, 0, 707, 707, 707, 1);
        Hall.hits(two, 1, 1);
        heaps(two, "two lesser roads over a greater one", 0b011, 200);
        TriggerHall one = new TriggerHall();
        one.road(0, 0, 707, 707, 707, 1);
        one.road(0, 707, 707, 707, 707, 1);
        one.road(707, 0, 707, 707, 707, 1);
        Hall.hits(one, 1, 1);
        heaps(one, "one lesser road over two greater ones", 0b001, 200);
    }

    private static void heapOfAnotherLook() {
        TriggerHall hall = new TriggerHall();
        roadAt(hall, 0, 0);
        roadAt(hall, 0, 0);
        Hall.hits(hall, 1, 1, 1, 1, 1);
        heaps(hall, "two that clash", 0b01, 100);
        hall.span(1, 0, 707);
        hall.span(1, 1, 0);
        heaps(hall, "they don't any more", 0b11, 200);
        roadAt(hall, 4, 0);
        heaps(hall, "one more", 0b111, 300);
        hall.hits(0, 0);
        heaps(hall, "one isn't lit any more", 0b110, 200);
        hall.mask(1, 0, 1);
        heaps(hall, "a dead cell", 0b100, 100);
        hall.mask(4, 1, 1);
        heaps(hall, "a noisy cell", 0, 0);
    }

    private static void heapRefusals() {
        for (int none : new int[] {-1, 3, LEAST, GREATEST}) {
            TWINS.refused("16: what " + none, NUMBER, hall -> hall.heap(none));
        }
    }

    private static void blindByDeadCells() {
        for (int need = 1; need <= 5; need++) {
            for (int dead = 0; dead <= 5; dead++) {
                TriggerHall hall = new TriggerHall();
                hall.road(3, 3, 3, 3, 3, need);
                for (int layer = 0; layer < 5; layer++) {
                    hall.hits(layer, 8);
                    hall.mask(layer, 0, layer < dead ? 8 : 0);
                }
                int lit = 5 - dead >= need ? 1 : 0;
                DUE.is("11: need " + need + ", " + dead + " dead", hall.lit(), lit);
                DUE.is("17: need " + need + ", " + dead + " dead", hall.blind(), 1 - lit);
                hall.mask(4, 1, 8);
                int wouldBe = need <= 4 ? 1 : 0;
                int isStill = Math.max(0, 4 - dead) >= need ? 1 : 0;
                DUE.is("17: a noisy one more", hall.blind(), wouldBe - isStill);
                DUE.is("17: dead cells stay", hall.layer(0, 2), dead > 0 ? 8 : 0);
            }
        }
        DUE.is("17: no road", new TriggerHall().blind(), 0);
    }

    private static void blindInEachCell() {
        for (int layer = 0; layer < 5; layer++) {
            for (int cell = 0; cell < 16; cell++) {
                TriggerHall hall = new TriggerHall();
                for (int n = 0; n < 12; n++) {
                    roadAt(hall, layer, cell);
                }
                hall.span(0, layer, 101 * (15 - cell));
                hall.hits(layer, 1 << cell);
                DUE.is("17: none is dead", hall.blind(), 0);
                hall.mask(layer, 0, 65535);
                DUE.is("17: cell " + cell + " of layer " + layer, hall.blind(), 4094);
                hall.mask(layer, 1, 1 << cell);
                DUE.is("17: dead and noisy", hall.blind(), 0);
            }
        }
    }
}
