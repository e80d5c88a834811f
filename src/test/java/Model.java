import java.math.BigInteger;
import java.util.ArrayDeque;
import java.util.ArrayList;
import java.util.Arrays;
import java.util.Deque;
import java.util.List;

/**
 * The document once more, as slowly and plainly as can be, to be held against the program:
 * misses by solving for p and q in fractions, heaps by looking at every set, texts by splitting.
 */
final class Model {
    private static final int[] KIND_BITS = {8, 16, 32};

    private static final class Road {
        final int[] from = new int[5];
        final int[] to = new int[5];
        int need;
    }

    private static final class Line {
        String text;
        int share;
        boolean bar;
        int count;
        int passed;
        int kept;
        int alone;
    }

    private record Raw(int number, int passed, int[] hits) {
    }

    private record Track(int[] cells, Fraction miss, int weight) {
    }

    /** A fraction, always cleared, with the line's lower side above 0. */
    private record Fraction(BigInteger above, BigInteger below) {
        static Fraction of(long above, long below) {
            return cleared(BigInteger.valueOf(above), BigInteger.valueOf(below));
        }

        static Fraction cleared(BigInteger above, BigInteger below) {
            BigInteger shared = above.gcd(below).multiply(BigInteger.valueOf(below.signum()));
            return new Fraction(above.divide(shared), below.divide(shared));
        }

        Fraction plus(Fraction o) {
            return cleared(above.multiply(o.below).add(o.above.multiply(below)), below.multiply(o.below));
        }

        Fraction times(Fraction o) {
            return cleared(above.multiply(o.above), below.multiply(o.below));
        }

        Fraction minus(Fraction o) {
            return plus(new Fraction(o.above.negate(), o.below));
        }

        boolean lessThan(Fraction o) {
            return minus(o).above.signum() < 0;
        }
    }

    private final int[][] sheets = new int[3][];
    private final int[] kinds = new int[3];
    private int[] hits = new int[5];
    private final int[] dead = new int[5];
    private final int[] noisy = new int[5];
    private final List<Road> roads = new ArrayList<>();
    private final StringBuilder tape = new StringBuilder();
    private final List<Line> menu = new ArrayList<>();
    private final List<Raw> raws = new ArrayList<>();
    private int rest;
    private int toLose;
    private int came;
    private int lost;
    private int kept;
    private int barred;

    private static boolean within(int v, int least, int most) {
        return least <= v && v <= most;
    }

    int sheet(int r, int kind, int n) {
        if (!within(r, 0, 2) || !within(kind, 0, 2)) return -1;
        if (n < 0) return -4;
        if (n > 20) return -1;
        sheets[r] = new int[n];
        kinds[r] = kind;
        return 1;
    }

    int cell(int r, int i, int v) {
        if (!within(r, 0, 2)) return -1;
        if (sheets[r] == null) return -3;
        if (!within(i, 0, sheets[r].length - 1)) return -1;
        int away = 32 - KIND_BITS[kinds[r]];
        sheets[r][i] = v << away >> away;
        return 1;
    }

    int lose(int r) {
        if (!within(r, 0, 2)) return -1;
        if (sheets[r] == null) return -3;
        sheets[r] = null;
        return 1;
    }

    int hits(int layer, int bits) {
        if (!within(layer, 0, 4) || !within(bits, 0, 65535)) return -1;
        hits[layer] = bits;
        return ones(bits);
    }

    int load(int r, int i) {
        if (!within(r, 0, 2) || i < 0) return -1;
        if (sheets[r] == null) return -3;
        for (int l = 0; l < 5; l++) {
            long at = (long) i + l;
            hits[l] = at < sheets[r].length ? sheets[r][(int) at] & 0xFFFF : 0;
        }
        return ones(hits);
    }

    int mask(int layer, int what, int bits) {
        if (!within(layer, 0, 4) || !within(what, 0, 1) || !within(bits, 0, 65535)) return -1;
        int[] masks = what == 0 ? dead : noisy;
        int before = masks[layer];
        masks[layer] = bits;
        return before;
    }

    int layer(int layer, int what) {
        if (!within(layer, 0, 4) || !within(what, 0, 3)) return -1;
        return new int[][] {hits, seenOf(hits, dead), dead, noisy}[what][layer];
    }

    int road(int zero, int one, int two, int three, int four, int need) {
        int[] told = {zero, one, two, three, four};
        for (int t : told) {
            if (!isSpan(t)) return -1;
        }
        if (!within(need, 1, 5)) return -1;
        if (roads.size() == 12) return -2;
        Road road = new Road();
        for (int l = 0; l < 5; l++) {
            road.from[l] = told[l] / 100;
            road.to[l] = told[l] % 100;
        }
        road.need = need;
        roads.add(road);
        return roads.size() - 1;
    }

    int span(int road, int layer, int span) {
        if (!within(road, 0, roads.size() - 1) || !within(layer, 0, 4) || !isSpan(span)) return -1;
        Road r = roads.get(road);
        int before = r.from[layer] * 100 + r.to[layer];
        r.from[layer] = span / 100;
        r.to[layer] = span % 100;
        return before;
    }

    int lit() {
        return litBy(seenOf(hits, dead));
    }

    int held(int road) {
        if (!within(road, 0, roads.size() - 1)) return -1;
        return heldBy(roads.get(road), seenOf(hits, dead));
    }

    int track(int road, int layer) {
        if (!within(road, 0, roads.size() - 1) || !within(layer, 0, 4)) return -1;
        Track track = trackOf(roads.get(road), seenOf(hits, dead));
        return track == null || track.cells[layer] < 0 ? -5 : track.cells[layer];
    }

    int miss(int road, int what) {
        if (!within(road, 0, roads.size() - 1) || !within(what, 0, 1)) return -1;
        Track track = trackOf(roads.get(road), seenOf(hits, dead));
        if (track == null) return -5;
        return (what == 0 ? track.miss.above : track.miss.below).intValueExact();
    }

    int weight(int road) {
        if (!within(road, 0, roads.size() - 1)) return -1;
        Track track = trackOf(roads.get(road), seenOf(hits, dead));
        return track == null ? -5 : track.weight;
    }

    int heap(int what) {
        if (!within(what, 0, 2)) return -1;
        int[] heap = heapOf(seenOf(hits, dead));
        return new int[] {heap[0], ones(heap[0]), heap[1]}[what];
    }

    int blind() {
        int all = litBy(seenOf(hits, new int[5]));
        return all & ~lit();
    }

    int feed(int v) {
        StringBuilder more = new StringBuilder();
        for (int b : new int[] {v & 255, v >> 8 & 255, v >> 16 & 255, v >> 24 & 255}) {
            if (b == 0) break;
            more.append((char) b);
        }
        if (tape.length() + more.length() > 60) return -2;
        tape.append(more);
        return tape.length();
    }

    int clear() {
        int before = tape.length();
        tape.setLength(0);
        return before;
    }

    int line(int share, boolean bar) {
        if (!within(share, 1, 100)) return -1;
        if (menu.size() == 8) return -2;
        int fault = faultOf(tape.toString());
        if (fault >= 0) return -100 - fault;
        Line line = new Line();
        line.text = tape.toString();
        line.share = share;
        line.bar = bar;
        menu.add(line);
        tape.setLength(0);
        return menu.size() - 1;
    }

    int thin(int line, int share) {
        if (!within(line, 0, menu.size() - 1) || !within(share, 1, 100)) return -1;
        int before = menu.get(line).share;
        menu.get(line).share = share;
        return before;
    }

    int holds(int line) {
        if (!within(line, 0, menu.size() - 1)) return -1;
        return holding(hits) >> line & 1;
    }

    int of(int line, int what) {
        if (!within(line, 0, menu.size() - 1) || !within(what, 0, 6)) return -1;
        Line l = menu.get(line);
        int[] all = {l.share, l.bar ? 1 : 0, l.count, l.passed, l.kept, l.alone, l.text.length()};
        return all[what];
    }

    int fire() {
        int[] crossing = hits;
        hits = new int[5];
        int number = came++;
        if (toLose > 0) {
            toLose--;
            lost++;
            return -1;
        }
        int holding = holding(crossing);
        List<Integer> keeps = new ArrayList<>();
        int bars = 0;
        int bits = 0;
        for (int n = 0; n < menu.size(); n++) {
            Line line = menu.get(n);
            if ((holding >> n & 1) == 0) continue;
            line.count++;
            if (line.count % line.share != 0) continue;
            line.passed++;
            bits += 1 << n;
            if (line.bar) bars++;
            else keeps.add(n);
        }
        if (!keeps.isEmpty() && bars > 0) barred++;
        if (keeps.isEmpty() || bars > 0) return 0;
        for (int n : keeps) {
            menu.get(n).kept++;
            if (keeps.size() == 1) menu.get(n).alone++;
        }
        kept++;
        raws.add(0, new Raw(number, bits, crossing));
        if (raws.size() > 30) raws.remove(30);
        toLose = rest;
        return bits;
    }

    int rest(int n) {
        if (!within(n, 0, 20)) return -1;
        int before = rest;
        rest = n;
        return before;
    }

    int many(int what) {
        if (!within(what, 0, 7)) return -1;
        return new int[] {roads.size(), menu.size(), came, lost, kept, barred, raws.size(), toLose}[what];
    }

    int raw(int k, int what) {
        if (!within(k, 0, raws.size() - 1) || !within(what, 0, 7)) return -1;
        Raw raw = raws.get(k);
        if (what == 0) return raw.number;
        if (what == 1) return raw.passed;
        return what == 7 ? holding(raw.hits) : raw.hits[what - 2];
    }

    int again(int k) {
        if (!within(k, 0, raws.size() - 1)) return -1;
        hits = raws.get(k).hits.clone();
        return ones(hits);
    }

    int anew() {
        int before = came;
        raws.clear();
        came = lost = kept = barred = toLose = 0;
        for (Line line : menu) {
            line.count = line.passed = line.kept = line.alone = 0;
        }
        return before;
    }

    private static int ones(int... rows) {
        int all = 0;
        for (int bits : rows) {
            for (int c = 0; c < 32; c++) {
                all += bits >>> c & 1;
            }
        }
        return all;
    }

    private static boolean isSpan(int told) {
        for (int a = 0; a <= 15; a++) {
            for (int b = a; b <= Math.min(15, a + 3); b++) {
                if (told == 100 * a + b) return true;
            }
        }
        return false;
    }

    private int[] seenOf(int[] crossing, int[] deadCells) {
        int[] seen = new int[5];
        for (int l = 0; l < 5; l++) {
            for (int c = 0; c < 16; c++) {
                boolean hit = (crossing[l] >> c & 1) == 1;
                boolean out = (deadCells[l] >> c & 1) == 1 || (noisy[l] >> c & 1) == 1;
                if (hit && !out) seen[l] += 1 << c;
            }
        }
        return seen;
    }

    private static int heldBy(Road road, int[] seen) {
        int layers = 0;
        for (int l = 0; l < 5; l++) {
            boolean some = false;
            for (int c = road.from[l]; c <= road.to[l]; c++) {
                some |= (seen[l] >> c & 1) == 1;
            }
            if (some) layers += 1 << l;
        }
        return layers;
    }

    private int litBy(int[] seen) {
        int lit = 0;
        for (int n = 0; n < roads.size(); n++) {
            if (ones(heldBy(roads.get(n), seen)) >= roads.get(n).need) lit += 1 << n;
        }
        return lit;
    }

    private static Track trackOf(Road road, int[] seen) {
        int layers = heldBy(road, seen);
        if (ones(layers) < road.need) return null;
        List<int[]> tracks = new ArrayList<>();
        tracks.add(new int[] {-1, -1, -1, -1, -1});
        for (int l = 0; l < 5; l++) {
            if ((layers >> l & 1) == 0) continue;
            List<int[]> longer = new ArrayList<>();
            for (int[] track : tracks) {
                for (int c = road.from[l]; c <= road.to[l]; c++) {
                    if ((seen[l] >> c & 1) == 0) continue;
                    int[] next = track.clone();
                    next[l] = c;
                    longer.add(next);
                }
            }
            tracks = longer;
        }
        int[] best = null;
        Fraction least = null;
        for (int[] track : tracks) {
            Fraction miss = missOf(track);
            boolean less = least == null || miss.lessThan(least);
            if (less || miss.equals(least) && Arrays.compare(track, best) < 0) {
                best = track;
                least = miss;
            }
        }
        int tenfold = least.above.multiply(BigInteger.TEN).divide(least.below).intValueExact();
        return new Track(best, least, Math.max(0, 100 * ones(layers) - tenfold));
    }

    /** By Cramer's rule p and q, then the squares themselves. */
    private static Fraction missOf(int[] cells) {
        int n = 0;
        int l1 = 0;
        int l2 = 0;
        int c1 = 0;
        int lc = 0;
        for (int l = 0; l < 5; l++) {
            if (cells[l] < 0) continue;
            n++;
            l1 += l;
            l2 += l * l;
            c1 += cells[l];
            lc += l * cells[l];
        }
        if (n == 1) return Fraction.of(0, 1);
        Fraction p = Fraction.of((long) c1 * l2 - (long) l1 * lc, (long) n * l2 - (long) l1 * l1);
        Fraction q = Fraction.of((long) n * lc - (long) l1 * c1, (long) n * l2 - (long) l1 * l1);
        Fraction sum = Fraction.of(0, 1);
        for (int l = 0; l < 5; l++) {
            if (cells[l] < 0) continue;
            Fraction off = Fraction.of(cells[l], 1).minus(p.plus(q.times(Fraction.of(l, 1))));
            sum = sum.plus(off.times(off));
        }
        return sum;
    }

    private int[] heapOf(int[] seen) {
        Track[] tracks = new Track[roads.size()];
        for (int n = 0; n < tracks.length; n++) {
            tracks[n] = trackOf(roads.get(n), seen);
        }
        int[] best = {0, 0};
        for (int set = 0; set < 1 << tracks.length; set++) {
            int weights = weightsOf(tracks, set);
            if (weights > best[1]) best = new int[] {set, weights};
        }
        return best;
    }

    private static int weightsOf(Track[] tracks, int set) {
        int[] taken = new int[5];
        int weights = 0;
        for (int n = 0; n < tracks.length; n++) {
            if ((set >> n & 1) == 0) continue;
            if (tracks[n] == null) return -1;
            weights += tracks[n].weight;
            for (int l = 0; l < 5; l++) {
                int bit = tracks[n].cells[l] < 0 ? 0 : 1 << tracks[n].cells[l];
                if ((taken[l] & bit) != 0) return -1;
                taken[l] |= bit;
            }
        }
        return weights;
    }

    /** The fault of a text, or -1: one letter after the other, with what is open on a pile. */
    private static int faultOf(String text) {
        Deque<Character> open = new ArrayDeque<>();
        boolean wantsOne = true;
        int i = 0;
        while (i < text.length()) {
            char c = text.charAt(i);
            if (wantsOne && (c == '(' || c == '!')) {
                if (open.size() == 20) return i;
                open.push(c);
                i++;
                continue;
            }
            if (wantsOne) {
                if ("thwlr".indexOf(c) < 0) return i;
                int end = i + 1;
                while (end < text.length() && end < i + 4 && "0123456789".indexOf(text.charAt(end)) >= 0) end++;
                if (end == i + 1) return end;
                i = end;
            } else if (c == '&' || c == '|') {
                wantsOne = true;
                i++;
                continue;
            } else if (c == ')' && !open.isEmpty()) {
                open.pop();
                i++;
            } else {
                return i;
            }
            wantsOne = false;
            while (!open.isEmpty() && open.peek() == '!') open.pop();
        }
        return wantsOne || !open.isEmpty() ? text.length() : -1;
    }

    private int holding(int[] crossing) {
        int[] seen = seenOf(crossing, dead);
        int[] heap = heapOf(seen);
        int layers = 0;
        for (int bits : seen) {
            if (bits != 0) layers++;
        }
        int[] facts = {ones(heap[0]), ones(seen), heap[1], layers, litBy(seen)};
        int holding = 0;
        for (int n = 0; n < menu.size(); n++) {
            if (truth(menu.get(n).text, facts)) holding += 1 << n;
        }
        return holding;
    }

    /** Splits a right text at its last outer | or else at its last outer &. */
    private static boolean truth(String text, int[] facts) {
        for (char sign : new char[] {'|', '&'}) {
            int depth = 0;
            for (int i = text.length() - 1; i >= 0; i--) {
                char c = text.charAt(i);
                if (c == ')') depth++;
                if (c == '(') depth--;
                if (c != sign || depth != 0) continue;
                boolean left = truth(text.substring(0, i), facts);
                boolean right = truth(text.substring(i + 1), facts);
                return sign == '|' ? left || right : left && right;
            }
        }
        if (text.charAt(0) == '!') return !truth(text.substring(1), facts);
        if (text.charAt(0) == '(') return truth(text.substring(1, text.length() - 1), facts);
        int number = Integer.parseInt(text.substring(1));
        int fact = "thwl".indexOf(text.charAt(0));
        if (fact >= 0) return facts[fact] >= number;
        return number < 12 && (facts[4] & 1 << number) != 0;
    }
}
