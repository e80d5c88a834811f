/** Halls in which a refused call could do harm: with something of all, and near or at each limit. */
final class States {
    private States() {
    }

    /** Some of everything, nothing full; crossings are being lost; the tape has a right text. */
    static void busy(TriggerHall hall) {
        hall.sheet(0, 0, 4);
        hall.cell(0, 0, -1);
        hall.cell(0, 3, 5);
        hall.sheet(1, 1, 20);
        for (int i = 0; i < 20; i++) {
            hall.cell(1, i, 1 << i % 16);
        }
        hall.mask(0, 0, 0x8001);
        hall.mask(3, 1, 0x0010);
        hall.road(3, 104, 205, 306, 407, 3);
        hall.road(1215, 912, 609, 306, 3, 1);
        hall.road(1, 1, 1, 1, 1, 5);
        Hall.keep(hall, "h1", 2);
        Hall.keep(hall, "l2|r1", 1);
        Hall.bar(hall, "w300&!t2", 3);
        for (int n = 1; n < 6; n++) {
            Hall.fireWith(hall, 2 * n, n << 1, n << 3);
        }
        hall.rest(4);
        Hall.fireWith(hall, 6, 2);
        hall.fire();
        hall.rest(7);
        Hall.feed(hall, "t1|!h9&r2");
        Hall.hits(hall, 0x800E, 0x0204, 0x0108, 0x0050, 0x000B);
    }

    /** One less than full of roads, lines, letters and raw ones; no sheet; the tape has a fault. */
    static void nearlyFull(TriggerHall hall) {
        for (int n = 0; n < 11; n++) {
            int low = 101 * n + 3;
            hall.road(low, low, low, low, low, 1 + n % 5);
        }
        for (int n = 0; n < 7; n++) {
            Hall.keep(hall, "h" + (n + 1), n + 1);
        }
        for (int n = 1; n <= 29; n++) {
            Hall.fireWith(hall, n);
        }
        Hall.feed(hall, "h1&".repeat(19) + "h)");
        Hall.hits(hall, 0x0F0F, 0x00F0, 0xFFFF, 0x0001, 0x8000);
    }

    /** As much of all as may be, the longest rest just begun. */
    static void full(TriggerHall hall) {
        for (int r = 0; r < 3; r++) {
            hall.sheet(r, r, 20);
            hall.cell(r, 0, 0x1234);
            hall.cell(r, 19, -2);
        }
        for (int n = 0; n < 12; n++) {
            int low = 101 * n + 3;
            hall.road(low, 1215, low, 3, low, 1 + n % 5);
        }
        for (int n = 0; n < 7; n++) {
            Hall.keep(hall, "h" + (n + 1), 1);
        }
        Hall.bar(hall, "h15", 1);
        for (int n = 1; n <= 32; n++) {
            Hall.fireWith(hall, n);
        }
        Hall.fireWith(hall, 0x7FFF);
        hall.rest(20);
        Hall.fireWith(hall, 3);
        Hall.feed(hall, "t1|".repeat(20));
        Hall.hits(hall, 0xFFFF, 0xFFFF, 0xFFFF, 0xFFFF, 0xFFFF);
    }
}
