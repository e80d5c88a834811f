/** Promises 9 to 17. */
public final class RoadsTest {
    private static final Due DUE = new Due("RoadsTest");

    public static void main(String[] args) {
        road();
        span();
        litAndHeld();
        track();
        trackOfSeveral();
        miss();
        weight();
        heap();
        heapOfSeveral();
        heapOfAll();
        blind();
        DUE.end();
    }

    private static int wide(TriggerHall hall, int need) {
        return hall.road(3, 3, 3, 3, 3, need);
    }

    private static void road() {
        TriggerHall hall = new TriggerHall();
        int[] none = {-1, -100, -50, 4, 100, 1216, 1616, 16, 1600, 1519, 211, Integer.MIN_VALUE, Integer.MAX_VALUE};
        for (int told : none) {
            DUE.is("9: zero " + told, hall.road(told, 3, 3, 3, 3, 1), TriggerHall.NUMBER);
            DUE.is("9: one " + told, hall.road(3, told, 3, 3, 3, 1), TriggerHall.NUMBER);
            DUE.is("9: two " + told, hall.road(3, 3, told, 3, 3, 1), TriggerHall.NUMBER);
            DUE.is("9: three " + told, hall.road(3, 3, 3, told, 3, 1), TriggerHall.NUMBER);
            DUE.is("9: four " + told, hall.road(3, 3, 3, 3, told, 1), TriggerHall.NUMBER);
        }
        DUE.is("9: need 0", wide(hall, 0), TriggerHall.NUMBER);
        DUE.is("9: need 6", wide(hall, 6), TriggerHall.NUMBER);
        DUE.is("9: none has come", hall.many(0), 0);
        DUE.is("9: a road of edges", hall.road(0, 1515, 1215, 3, 912, 5), 0);
        for (int n = 1; n < 12; n++) {
            DUE.is("9: road " + n, wide(hall, 1), n);
        }
        DUE.is("9: the 13th", wide(hall, 1), TriggerHall.FULL);
        DUE.is("9: NUMBER ahead of FULL", wide(hall, 0), TriggerHall.NUMBER);
        DUE.is("9: twelve have come", hall.many(0), 12);
    }

    private static void span() {
        TriggerHall hall = new TriggerHall();
        hall.road(0, 101, 202, 303, 404, 1);
        for (int layer = 0; layer < 5; layer++) {
            DUE.is("10: layer " + layer, hall.span(0, layer, 1215), 101 * layer);
        }
        DUE.is("10: it was another one", hall.span(0, 4, 1515), 1215);
        DUE.is("10: road above", hall.span(1, 0, 3), TriggerHall.NUMBER);
        DUE.is("10: road below", hall.span(-1, 0, 3), TriggerHall.NUMBER);
        DUE.is("10: layer above", hall.span(0, 5, 3), TriggerHall.NUMBER);
        DUE.is("10: layer below", hall.span(0, -1, 3), TriggerHall.NUMBER);
        DUE.is("10: too wide", hall.span(0, 0, 4), TriggerHall.NUMBER);
        DUE.is("10: backwards", hall.span(0, 0, 302), TriggerHall.NUMBER);
        DUE.is("10: below nought", hall.span(0, 0, -3), TriggerHall.NUMBER);
        DUE.is("10: refused ones change nothing", hall.span(0, 0, 3), 1215);
        hall.hits(0, 1);
        DUE.is("10: the new span is the one that holds", hall.held(0), 1);
    }

    private static void litAndHeld() {
        TriggerHall hall = new TriggerHall();
        hall.road(205, 205, 205, 205, 205, 2);
        hall.road(3, 3, 3, 3, 3, 3);
        Hall.hits(hall, 1 << 2, 1 << 5, 1 << 1, 1 << 6, 0);
        DUE.is("12: the edges of a span are in it", hall.held(0), 0b00011);
        DUE.is("12: held without being lit", hall.held(1), 0b00101);
        DUE.is("11: just as many as it needs", hall.lit(), 0b01);
        hall.hits(4, 8);
        DUE.is("11: more than the first one needs", hall.lit(), 0b11);
        hall.mask(0, 1, 1 << 2);
        DUE.is("12: a noisy cell holds nothing", hall.held(0), 0b10010);
        DUE.is("11: nor helps to light a road", hall.lit(), 0b01);
        DUE.is("12: road above", hall.held(2), TriggerHall.NUMBER);
        DUE.is("12: road below", hall.held(-1), TriggerHall.NUMBER);
    }

    private static void track() {
        TriggerHall hall = new TriggerHall();
        wide(hall, 2);
        Hall.hits(hall, 0b1000, 0, 0b0010);
        DUE.is("13: layer 0", hall.track(0, 0), 3);
        DUE.is("13: layer 2", hall.track(0, 2), 1);
        DUE.is("13: a layer that isn't held", hall.track(0, 1), TriggerHall.NONE);
        hall.hits(2, 0);
        DUE.is("13: not lit", hall.track(0, 0), TriggerHall.NONE);
        DUE.is("13: road above", hall.track(1, 0), TriggerHall.NUMBER);
        DUE.is("13: road below", hall.track(-1, 0), TriggerHall.NUMBER);
        DUE.is("13: layer above", hall.track(0, 5), TriggerHall.NUMBER);
        DUE.is("13: layer below, ahead of NONE", hall.track(0, -1), TriggerHall.NUMBER);
    }

    private static void trackOfSeveral() {
        TriggerHall hall = new TriggerHall();
        wide(hall, 1);
        Hall.hits(hall, 0, 0, 0, 0b1100);
        DUE.is("13: one layer alone takes its least cell", hall.track(0, 3), 2);
        Hall.hits(hall, 0b1010, 0b1001, 0, 0);
        DUE.is("13: of two layers the least cells", hall.track(0, 0), 1);
        DUE.is("13: in each", hall.track(0, 1), 0);
        Hall.hits(hall, 0b0101, 0b0010, 0b0101, 0);
        DUE.is("13: of two lines the one that is lower first", hall.track(0, 0), 0);
        DUE.is("13: though it is higher then", hall.track(0, 2), 2);
        Hall.hits(hall, 0b0011, 0b1000, 0b1000, 0b1000);
        DUE.is("13: the least miss is ahead of the lesser cell", hall.track(0, 0), 1);
        Hall.hits(hall, 0b1001, 0b1000, 0b1000, 0b1000);
        DUE.is("13: to the last cell of a span", hall.track(0, 0), 3);
        Hall.hits(hall, 0b0001, 0b1010, 0b0001, 0);
        DUE.is("13: the lesser miss is of the lesser cell", hall.track(0, 1), 1);
        Hall.hits(hall, 0b0010, 0b0101, 0b0010, 0);
        DUE.is("13: of two alike with a miss the lesser cell", hall.track(0, 1), 0);
        DUE.is("14: which is", hall.miss(0, 0), 2);
        hall.mask(1, 0, 0b0001);
        DUE.is("13: without the dead cell the other", hall.track(0, 1), 2);
        hall.mask(1, 0, 0b0100);
        hall.mask(1, 1, 0b0001);
        DUE.is("12: dead and noisy, none is held", hall.held(0), 0b101);
    }

    private static void miss() {
        TriggerHall hall = new TriggerHall();
        wide(hall, 1);
        hall.hits(2, 2);
        misses(hall, "one layer", 0, 1);
        hall.hits(4, 8);
        misses(hall, "two layers", 0, 1);
        Hall.hits(hall, 1, 2, 1, 0, 0);
        misses(hall, "0 1 0", 2, 3);
        Hall.hits(hall, 1, 2, 0, 1, 0);
        misses(hall, "0 1 - 0", 9, 14);
        Hall.hits(hall, 1, 8, 0, 8, 1);
        misses(hall, "0 3 - 3 0", 9, 1);
        Hall.hits(hall, 1, 1, 1, 1, 2);
        misses(hall, "0 0 0 0 1", 2, 5);
        DUE.is("14: road above", hall.miss(1, 0), TriggerHall.NUMBER);
        DUE.is("14: road below", hall.miss(-1, 0), TriggerHall.NUMBER);
        DUE.is("14: what above", hall.miss(0, 2), TriggerHall.NUMBER);
        DUE.is("14: what below", hall.miss(0, -1), TriggerHall.NUMBER);
        Hall.hits(hall, 0, 0, 0, 0, 0);
        DUE.is("14: not lit", hall.miss(0, 0), TriggerHall.NONE);
        DUE.is("14: what ahead of NONE", hall.miss(0, 2), TriggerHall.NUMBER);
    }

    private static void misses(TriggerHall hall, String cells, int above, int below) {
        DUE.is("14: above, " + cells, hall.miss(0, 0), above);
        DUE.is("14: below, " + cells, hall.miss(0, 1), below);
    }

    private static void weight() {
        TriggerHall hall = new TriggerHall();
        hall.road(3, 1215, 3, 1215, 3, 1);
        wide(hall, 5);
        hall.hits(0, 1);
        DUE.is("15: one layer", hall.weight(0), 100);
        Hall.hits(hall, 1, 1 << 12, 1);
        DUE.is("15: below nought it is 0", hall.weight(0), 0);
        Hall.hits(hall, 1, 1, 1, 1, 2);
        DUE.is("15: a whole 10 times its miss", hall.weight(1), 496);
        Hall.hits(hall, 1, 1, 1, 2, 1);
        DUE.is("15: 10 times its miss is 7 exactly", hall.weight(1), 493);
        Hall.hits(hall, 8, 1, 8, 1, 8);
        DUE.is("15: 10 times its miss is 108", hall.weight(1), 392);
        hall.hits(0, 0);
        DUE.is("15: not lit", hall.weight(1), TriggerHall.NONE);
        DUE.is("15: road above", hall.weight(2), TriggerHall.NUMBER);
        DUE.is("15: road below", hall.weight(-1), TriggerHall.NUMBER);
        TriggerHall three = new TriggerHall();
        wide(three, 3);
        Hall.hits(three, 1, 2, 1);
        DUE.is("15: the whole part of 6 2/3", three.weight(0), 294);
    }

    private static void heap() {
        TriggerHall hall = new TriggerHall();
        DUE.is("16: what above", hall.heap(3), TriggerHall.NUMBER);
        DUE.is("16: what below", hall.heap(-1), TriggerHall.NUMBER);
        hall.road(0, 0, 0, 0, 0, 1);
        hall.road(101, 101, 101, 101, 101, 1);
        hall.road(1, 101, 101, 101, 101, 1);
        heaps(hall, "nothing is lit", 0, 0, 0);
        Hall.hits(hall, 1, 1, 1, 0, 0);
        heaps(hall, "two with a cell in common", 0b001, 1, 300);
        Hall.hits(hall, 1, 1, 1, 2, 2);
        heaps(hall, "two without", 0b011, 2, 500);
        Hall.hits(hall, 3, 3, 3, 3, 3);
        heaps(hall, "two of three", 0b011, 2, 1000);
        hall.mask(0, 0, 2);
        heaps(hall, "a dead cell", 0b011, 2, 900);
        Hall.hits(hall, 0, 0, 0, 0, 0);
        heaps(hall, "nothing is lit any more", 0, 0, 0);
    }

    private static void heapOfSeveral() {
        TriggerHall hall = new TriggerHall();
        hall.road(0, 0, 1515, 1515, 1515, 1);
        hall.road(1515, 0, 0, 1515, 1515, 1);
        hall.road(0, 1515, 0, 1515, 1515, 1);
        Hall.hits(hall, 1, 1, 1);
        heaps(hall, "each clashes with each, the first is the least", 0b001, 1, 200);
        TriggerHall weightless = new TriggerHall();
        weightless.road(3, 1215, 3, 1515, 1515, 1);
        weightless.road(1515, 1515, 1515, 3, 3, 1);
        Hall.hits(weightless, 1, 1 << 12, 1, 1);
        heaps(weightless, "a track of weight 0 stays out", 0b10, 1, 100);
        TriggerHall light = new TriggerHall();
        light.road(0, 0, 0, 1515, 1515, 1);
        light.road(0, 1515, 1515, 1515, 1515, 1);
        light.road(1515, 0, 1515, 0, 1515, 1);
        light.road(1515, 1515, 0, 1515, 0, 1);
        Hall.hits(light, 1, 1, 1, 1, 1);
        heaps(light, "several light ones over a heavy one", 0b1110, 3, 500);
        light.hits(3, 0);
        heaps(light, "still", 0b1110, 3, 400);
        light.hits(4, 0);
        heaps(light, "as heavy together: the least as bits", 0b0001, 1, 300);
    }

    private static void heapOfAll() {
        TriggerHall hall = new TriggerHall();
        for (int n = 0; n < 12; n++) {
            hall.road(101 * n, 101 * n, 101 * n, 101 * n, 101 * n, 1);
        }
        Hall.hits(hall, 65535, 65535, 65535, 65535, 65535);
        heaps(hall, "all twelve", 4095, 12, 6000);
        DUE.is("11: all twelve are lit", hall.lit(), 4095);
    }

    private static void heaps(TriggerHall hall, String what, int roads, int many, int weights) {
        DUE.is("16: roads, " + what, hall.heap(0), roads);
        DUE.is("16: how many, " + what, hall.heap(1), many);
        DUE.is("16: weights, " + what, hall.heap(2), weights);
    }

    private static void blind() {
        TriggerHall hall = new TriggerHall();
        wide(hall, 2);
        wide(hall, 1);
        wide(hall, 3);
        Hall.hits(hall, 0, 0, 1, 1, 1);
        hall.mask(2, 0, 1);
        hall.mask(3, 0, 1);
        hall.mask(4, 0, 1);
        DUE.is("17: dead cells in three layers", hall.blind(), 0b111);
        for (int layer = 2; layer < 5; layer++) {
            hall.mask(layer, 0, 0);
        }
        Hall.hits(hall, 1, 1, 0, 0, 0);
        DUE.is("17: no cell is dead", hall.blind(), 0);
        hall.mask(0, 0, 1);
        DUE.is("17: lit ones and dark ones aren't blind", hall.blind(), 0b001);
        hall.mask(1, 0, 1);
        DUE.is("17: two dead cells", hall.blind(), 0b011);
        hall.mask(1, 1, 1);
        DUE.is("17: noisy ones stay unseen", hall.blind(), 0b010);
        DUE.is("17: asking leaves the dead ones dead", hall.lit(), 0);
    }
}
