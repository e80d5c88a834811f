/** Numbers that look thrown, but are the same in every run. */
final class Dice {
    private long state;

    Dice(long seed) {
        state = seed * 0x9E3779B97F4A7C15L + 0x1234567L;
    }

    /** From 0 to below - 1. */
    int below(int below) {
        state ^= state << 13;
        state ^= state >>> 7;
        state ^= state << 17;
        return (int) Math.floorMod(state >>> 11, (long) below);
    }

    boolean oneIn(int n) {
        return below(n) == 0;
    }

    int bits(int eighths) {
        int bits = 0;
        for (int c = 0; c < 16; c++) {
            if (below(8) < eighths) bits |= 1 << c;
        }
        return bits;
    }
}
