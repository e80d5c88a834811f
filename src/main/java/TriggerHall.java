import java.util.ArrayList;
import java.util.List;

/** A hall where crossings come one behind the other and few are kept. */
public final class TriggerHall {
    public static final int NUMBER = -1;
    public static final int FULL = -2;
    public static final int MISSING = -3;
    public static final int SIZE = -4;
    public static final int NONE = -5;
    public static final int FAULT = -100;

    private static final int LAYERS = 5;
    private static final int CELLS = 16;
    private static final int ALL_CELLS = 65535;
    private static final int WIDEST = 3;
    private static final int SHEETS = 3;
    private static final int MOST_NUMBERS = 20;
    private static final int MOST_ROADS = 12;
    private static final int MOST_LINES = 8;
    private static final int MOST_SHARE = 100;
    private static final int MOST_REST = 20;
    private static final int MOST_RAW = 30;
    private static final int MOST_LETTERS = 60;
    private static final int MOST_OPEN = 20;
    private static final int MOST_FIGURES = 3;
    private static final int LETTERS_FED = 4;
    private static final int LOST = -1;
    private static final int NOWHERE = -1;
    private static final int ABOVE_ANY_MISS = 1 << 30;
    private static final int[] NO_CELLS = {0, 0, 0, 0, 0};

    private final Sheet[] sheets = {new Sheet(), new Sheet(), new Sheet()};
    private final int[] hits = new int[LAYERS];
    private final int[] dead = new int[LAYERS];
    private final int[] noisy = new int[LAYERS];
    private final List<Road> roads = new ArrayList<>();
    private final Look look = new Look();
    private final Text tape = new Text();
    private final Reader reader = new Reader();
    private final List<Line> lines = new ArrayList<>();
    private final Raws raws = new Raws();
    private final int[] rawHits = new int[LAYERS];
    private int rest;
    private int toLose;
    private int came;
    private int lost;
    private int barred;

    public TriggerHall() {
    }

    // ---- hits

    public int sheet(int r, int kind, int n) {
        Sheet sheet = sheetAt(r);
        if (sheet == null || kind < 0 || kind > 2) {
            return NUMBER;
        }
        if (n < 0) {
            return SIZE;
        }
        if (n > MOST_NUMBERS) {
            return NUMBER;
        }
        sheet.lay(kind, n);
        return 1;
    }

    public int cell(int r, int i, int v) {
        Sheet sheet = sheetAt(r);
        if (sheet == null) {
            return NUMBER;
        }
        if (!sheet.there) {
            return MISSING;
        }
        if (!sheet.has(i)) {
            return NUMBER;
        }
        sheet.put(i, v);
        return 1;
    }

    public int lose(int r) {
        Sheet sheet = sheetAt(r);
        if (sheet == null) {
            return NUMBER;
        }
        if (!sheet.there) {
            return MISSING;
        }
        sheet.there = false;
        return 1;
    }

    public int hits(int layer, int bits) {
        if (!isLayer(layer) || !areCells(bits)) {
            return NUMBER;
        }
        hits[layer] = bits;
        return Integer.bitCount(bits);
    }

    public int load(int r, int i) {
        Sheet sheet = sheetAt(r);
        if (sheet == null || i < 0) {
            return NUMBER;
        }
        if (!sheet.there) {
            return MISSING;
        }
        for (int layer = 0; layer < LAYERS; layer++) {
            // a sum past the greatest int is below 0, where no sheet has a number
            hits[layer] = sheet.numberAt(i + layer) & ALL_CELLS;
        }
        return cellsIn(hits);
    }

    public int mask(int layer, int what, int bits) {
        if (!isLayer(layer) || what < 0 || what > 1 || !areCells(bits)) {
            return NUMBER;
        }
        int[] masks = what == 0 ? dead : noisy;
        int before = masks[layer];
        masks[layer] = bits;
        return before;
    }

    public int layer(int layer, int what) {
        if (!isLayer(layer)) {
            return NUMBER;
        }
        switch (what) {
            case 0:
                return hits[layer];
            case 1:
                return hits[layer] & ~dead[layer] & ~noisy[layer];
            case 2:
                return dead[layer];
            case 3:
                return noisy[layer];
            default:
                return NUMBER;
        }
    }

    // ---- roads, tracks

    public int road(int zero, int one, int two, int three, int four, int need) {
        boolean spans = isSpan(zero) && isSpan(one) && isSpan(two) && isSpan(three) && isSpan(four);
        if (!spans || need < 1 || need > LAYERS) {
            return NUMBER;
        }
        if (roads.size() >= MOST_ROADS) {
            return FULL;
        }
        Road road = new Road(need);
        road.setSpan(0, zero);
        road.setSpan(1, one);
        road.setSpan(2, two);
        road.setSpan(3, three);
        road.setSpan(4, four);
        roads.add(road);
        return roads.size() - 1;
    }

    public int span(int road, int layer, int span) {
        Road changed = roadAt(road);
        if (changed == null || !isLayer(layer) || !isSpan(span)) {
            return NUMBER;
        }
        int before = changed.spanTold(layer);
        changed.setSpan(layer, span);
        return before;
    }

    public int lit() {
        look.see(hits, dead, noisy);
        look.light(roads);
        return look.litRoads;
    }

    public int held(int road) {
        Road asked = roadAt(road);
        if (asked == null) {
            return NUMBER;
        }
        look.see(hits, dead, noisy);
        return asked.layersHeld(look.seen);
    }

    public int track(int road, int layer) {
        Road asked = roadAt(road);
        if (asked == null || !isLayer(layer)) {
            return NUMBER;
        }
        if (!fitInHand(asked)) {
            return NONE;
        }
        int cell = look.fit.cells[layer];
        return cell == NOWHERE ? NONE : cell;
    }

    public int miss(int road, int what) {
        Road asked = roadAt(road);
        if (asked == null || what < 0 || what > 1) {
            return NUMBER;
        }
        if (!fitInHand(asked)) {
            return NONE;
        }
        int above = look.fit.above();
        int below = look.fit.below();
        int shared = greatestDivisor(above, below);
        return what == 0 ? above / shared : below / shared;
    }

    public int weight(int road) {
        Road asked = roadAt(road);
        if (asked == null) {
            return NUMBER;
        }
        return fitInHand(asked) ? look.fit.worth() : NONE;
    }

    public int heap(int what) {
        if (what < 0 || what > 2) {
            return NUMBER;
        }
        lookAt(hits);
        if (what == 0) {
            return look.heap.bestRoads;
        }
        return what == 1 ? Integer.bitCount(look.heap.bestRoads) : look.heap.bestSum;
    }

    public int blind() {
        look.see(hits, NO_CELLS, noisy);
        look.light(roads);
        int withDeadCells = look.litRoads;
        look.see(hits, dead, noisy);
        look.light(roads);
        return withDeadCells & ~look.litRoads;
    }

    // ---- the menu

    public int feed(int v) {
        int more = lettersIn(v);
        if (tape.length + more > MOST_LETTERS) {
            return FULL;
        }
        for (int n = 0; n < more; n++) {
            tape.put(letterIn(v, n));
        }
        return tape.length;
    }

    public int clear() {
        int before = tape.length;
        tape.length = 0;
        return before;
    }

    public int line(int share, boolean bar) {
        if (!isShare(share)) {
            return NUMBER;
        }
        if (lines.size() >= MOST_LINES) {
            return FULL;
        }
        // only the fault matters here, so any look will do
        reader.read(tape, look);
        if (reader.fault != NOWHERE) {
            return FAULT - reader.fault;
        }
        lines.add(new Line(tape, share, bar));
        tape.length = 0;
        return lines.size() - 1;
    }

    public int thin(int line, int share) {
        Line changed = lineAt(line);
        if (changed == null || !isShare(share)) {
            return NUMBER;
        }
        int before = changed.share;
        changed.share = share;
        return before;
    }

    public int holds(int line) {
        Line asked = lineAt(line);
        if (asked == null) {
            return NUMBER;
        }
        lookAt(hits);
        return reader.read(asked.text, look) ? 1 : 0;
    }

    public int of(int line, int what) {
        Line asked = lineAt(line);
        if (asked == null) {
            return NUMBER;
        }
        switch (what) {
            case 0:
                return asked.share;
            case 1:
                return asked.bar ? 1 : 0;
            case 2:
                return asked.count;
            case 3:
                return asked.passed;
            case 4:
                return asked.kept;
            case 5:
                return asked.keptAlone;
            case 6:
                return asked.text.length;
            default:
                return NUMBER;
        }
    }

    // ---- crossings

    public int fire() {
        int number = came;
        came++;
        int answer = toLose > 0 ? loseCrossing() : judgeCrossing(number);
        for (int layer = 0; layer < LAYERS; layer++) {
            hits[layer] = 0;
        }
        return answer;
    }

    public int rest(int n) {
        if (n < 0 || n > MOST_REST) {
            return NUMBER;
        }
        int before = rest;
        rest = n;
        return before;
    }

    public int many(int what) {
        switch (what) {
            case 0:
                return roads.size();
            case 1:
                return lines.size();
            case 2:
                return came;
            case 3:
                return lost;
            case 4:
                return raws.kept;
            case 5:
                return barred;
            case 6:
                return raws.size();
            case 7:
                return toLose;
            default:
                return NUMBER;
        }
    }

    public int raw(int k, int what) {
        if (!raws.has(k) || what < 0 || what > LAYERS + 2) {
            return NUMBER;
        }
        if (what == 0) {
            return raws.numberOf(k);
        }
        if (what == 1) {
            return raws.passedAt(k);
        }
        raws.copyHits(k, rawHits);
        if (what < LAYERS + 2) {
            return rawHits[what - 2];
        }
        lookAt(rawHits);
        return holdingLines();
    }

    public int again(int k) {
        if (!raws.has(k)) {
            return NUMBER;
        }
        raws.copyHits(k, hits);
        return cellsIn(hits);
    }

    public int anew() {
        int before = came;
        came = 0;
        lost = 0;
        barred = 0;
        toLose = 0;
        raws.kept = 0;
        for (int n = 0; n < lines.size(); n++) {
            lines.get(n).forget();
        }
        return before;
    }

    // ---- what the calls share

    private static boolean isLayer(int layer) {
        return layer >= 0 && layer < LAYERS;
    }

    private static boolean areCells(int bits) {
        return bits >= 0 && bits <= ALL_CELLS;
    }

    private static boolean isShare(int share) {
        return share >= 1 && share <= MOST_SHARE;
    }

    private static boolean isSpan(int told) {
        if (told < 0) {
            return false;
        }
        int first = told / 100;
        int last = told % 100;
        return first <= last && last < CELLS && last - first <= WIDEST;
    }

    private static int cellsIn(int[] byLayers) {
        int cells = 0;
        for (int bits : byLayers) {
            cells += Integer.bitCount(bits);
        }
        return cells;
    }

    private static char letterIn(int v, int n) {
        return (char) ((v >>> (8 * n)) & 255);
    }

    private static int lettersIn(int v) {
        for (int n = 0; n < LETTERS_FED; n++) {
            if (letterIn(v, n) == 0) {
                return n;
            }
        }
        return LETTERS_FED;
    }

    private static int greatestDivisor(int a, int b) {
        int greater = a;
        int lesser = b;
        // Euclid's way needs fewer steps than an int pair has bits
        for (int step = 0; step < 64 && lesser != 0; step++) {
            int left = greater % lesser;
            greater = lesser;
            lesser = left;
        }
        return Math.max(greater, 1);
    }

    private Sheet sheetAt(int r) {
        return r < 0 || r >= SHEETS ? null : sheets[r];
    }

    private Road roadAt(int n) {
        return n < 0 || n >= roads.size() ? null : roads.get(n);
    }

    private Line lineAt(int n) {
        return n < 0 || n >= lines.size() ? null : lines.get(n);
    }

    private boolean fitInHand(Road road) {
        look.see(hits, dead, noisy);
        return look.fitAlong(road);
    }

    private void lookAt(int[] crossing) {
        look.see(crossing, dead, noisy);
        look.light(roads);
        look.pile(roads);
    }

    private int holdingLines() {
        int holding = 0;
        for (int n = 0; n < lines.size(); n++) {
            if (reader.read(lines.get(n).text, look)) {
                holding |= 1 << n;
            }
        }
        return holding;
    }

    private int loseCrossing() {
        toLose--;
        lost++;
        return LOST;
    }

    private int judgeCrossing(int number) {
        lookAt(hits);
        int passed = passLines(holdingLines());
        int bars = passed & barLines();
        int keeps = passed & ~bars;
        if (keeps == 0) {
            return 0;
        }
        if (bars != 0) {
            barred++;
            return 0;
        }
        creditLines(keeps);
        raws.keep(number, keeps, hits);
        toLose = rest;
        return keeps;
    }

    private int passLines(int holding) {
        int passed = 0;
        for (int n = 0; n < lines.size(); n++) {
            if ((holding >> n & 1) == 1 && lines.get(n).countPasses()) {
                passed |= 1 << n;
            }
        }
        return passed;
    }

    private int barLines() {
        int bars = 0;
        for (int n = 0; n < lines.size(); n++) {
            if (lines.get(n).bar) {
                bars |= 1 << n;
            }
        }
        return bars;
    }

    private void creditLines(int keeps) {
        boolean alone = Integer.bitCount(keeps) == 1;
        for (int n = 0; n < lines.size(); n++) {
            if ((keeps >> n & 1) == 1) {
                lines.get(n).credit(alone);
            }
        }
    }

    /** A row of bytes, shorts or ints, or none. */
    private static final class Sheet {
        private final int[] numbers = new int[MOST_NUMBERS];
        private boolean there;
        private int kind;
        private int length;

        private void lay(int newKind, int newLength) {
            there = true;
            kind = newKind;
            length = newLength;
            for (int i = 0; i < MOST_NUMBERS; i++) {
                numbers[i] = 0;
            }
        }

        private boolean has(int i) {
            return i >= 0 && i < length && i < MOST_NUMBERS;
        }

        private int numberAt(int i) {
            return has(i) ? numbers[i] : 0;
        }

        private void put(int i, int v) {
            if (!has(i)) {
                return;
            }
            if (kind == 0) {
                numbers[i] = (byte) v;
            } else if (kind == 1) {
                numbers[i] = (short) v;
            } else {
                numbers[i] = v;
            }
        }
    }

    /** A span of cells for each layer, and how many layers must be held. */
    private static final class Road {
        private final int[] first = new int[LAYERS];
        private final int[] last = new int[LAYERS];
        private final int need;

        private Road(int need) {
            this.need = need;
        }

        private void setSpan(int layer, int told) {
            if (isLayer(layer) && isSpan(told)) {
                first[layer] = told / 100;
                last[layer] = told % 100;
            }
        }

        private int spanTold(int layer) {
            return isLayer(layer) ? 100 * first[layer] + last[layer] : 0;
        }

        private int seenIn(int layer, int[] seen) {
            if (!isLayer(layer) || layer >= seen.length) {
                return 0;
            }
            int width = last[layer] - first[layer] + 1;
            int spanCells = ((1 << width) - 1) << first[layer];
            return seen[layer] & spanCells;
        }

        private int layersHeld(int[] seen) {
            int layers = 0;
            for (int layer = 0; layer < LAYERS; layer++) {
                if (seenIn(layer, seen) != 0) {
                    layers |= 1 << layer;
                }
            }
            return layers;
        }

        private boolean isLit(int[] seen) {
            return Integer.bitCount(layersHeld(seen)) >= need;
        }
    }

    /**
     * The track of one road. All tracks of a road have the same held layers, so their misses
     * have the same number below the line, and the numbers above it tell which is the least.
     */
    private static final class Fit {
        private final int[] choices = new int[LAYERS];
        private final int[] trial = new int[LAYERS];
        private final int[] cells = new int[LAYERS];
        private int held;
        private int layerSum;
        private int spread;
        private int least;

        private void along(Road road, int[] seen) {
            held = 0;
            layerSum = 0;
            int squares = 0;
            for (int layer = 0; layer < LAYERS; layer++) {
                choices[layer] = road.seenIn(layer, seen);
                trial[layer] = NOWHERE;
                if (choices[layer] != 0) {
                    held++;
                    layerSum += layer;
                    squares += layer * layer;
                }
            }
            spread = held * squares - layerSum * layerSum;
            least = ABOVE_ANY_MISS;
            tryCells(0, 0, 0, 0);
        }

        /** Goes through the cells upwards, so the first of several tracks alike is the due one. */
        private void tryCells(int layer, int sum, int squares, int slope) {
            if (layer < 0 || layer >= LAYERS) {
                takeTrial(sum, squares, slope);
                return;
            }
            if (choices[layer] == 0) {
                tryCells(layer + 1, sum, squares, slope);
                return;
            }
            int lowest = Integer.numberOfTrailingZeros(choices[layer]);
            for (int cell = lowest; cell <= lowest + WIDEST && !isPerfect(); cell++) {
                if ((choices[layer] >> cell & 1) == 1) {
                    trial[layer] = cell;
                    tryCells(layer + 1, sum + cell, squares + cell * cell, slope + layer * cell);
                }
            }
        }

        private boolean isPerfect() {
            return least == 0;
        }

        private void takeTrial(int sum, int squares, int slope) {
            int tilt = held * slope - layerSum * sum;
            int above = (held * squares - sum * sum) * spread - tilt * tilt;
            if (above >= least) {
                return;
            }
            least = above;
            for (int layer = 0; layer < LAYERS; layer++) {
                cells[layer] = trial[layer];
            }
        }

        private int above() {
            return least;
        }

        private int below() {
            // one layer alone has no spread, and a miss of 0 / 1
            return Math.max(held * spread, 1);
        }

        private int worth() {
            return Math.max(100 * held - 10 * least / below(), 0);
        }
    }

    /** The heaviest set of tracks without a cell twice. */
    private static final class Heap {
        private final int[] taken = new int[MOST_ROADS * LAYERS];
        private final int[] clashesAbove = new int[MOST_ROADS];
        private final int[] worths = new int[MOST_ROADS];
        private final int[] worthsUpTo = new int[MOST_ROADS];
        private int size;
        private int bestRoads;
        private int bestSum;

        private void empty() {
            size = 0;
            bestRoads = 0;
            bestSum = 0;
        }

        /** The next road has this track; one that is worth 0 is as good as none. */
        private void put(int worth, int[] cells) {
            if (size >= MOST_ROADS || cells.length < LAYERS) {
                return;
            }
            for (int layer = 0; layer < LAYERS; layer++) {
                taken[size * LAYERS + layer] = cells[layer];
            }
            worths[size] = worth;
            worthsUpTo[size] = worth + (size == 0 ? 0 : worthsUpTo[size - 1]);
            clashesAbove[size] = 0;
            for (int other = 0; other < size; other++) {
                if (clash(size, other)) {
                    clashesAbove[other] |= 1 << size;
                }
            }
            size++;
        }

        private boolean clash(int a, int b) {
            for (int layer = 0; layer < LAYERS; layer++) {
                int cell = taken[a * LAYERS + layer];
                if (cell != NOWHERE && cell == taken[b * LAYERS + layer]) {
                    return true;
                }
            }
            return false;
        }

        private void choose() {
            chooseFrom(size - 1, 0, 0);
        }

        /**
         * Leaves the higher roads out first, so the sets come from the least bits to the
         * greatest, and of several as heavy the first one stays.
         */
        private void chooseFrom(int road, int chosen, int sum) {
            if (road < 0 || road >= MOST_ROADS) {
                if (sum > bestSum) {
                    bestSum = sum;
                    bestRoads = chosen;
                }
                return;
            }
            if (sum + worthsUpTo[road] <= bestSum) {
                return;
            }
            chooseFrom(road - 1, chosen, sum);
            if (worths[road] > 0 && (clashesAbove[road] & chosen) == 0) {
                chooseFrom(road - 1, chosen | 1 << road, sum + worths[road]);
            }
        }
    }

    /** What is seen of one crossing, and what comes of it. */
    private static final class Look {
        private final int[] seen = new int[LAYERS];
        private final Fit fit = new Fit();
        private final Heap heap = new Heap();
        private int cellsSeen;
        private int layersSeen;
        private int litRoads;

        private void see(int[] crossing, int[] deadCells, int[] noisyCells) {
            layersSeen = 0;
            for (int layer = 0; layer < LAYERS; layer++) {
                seen[layer] = crossing[layer] & ~deadCells[layer] & ~noisyCells[layer];
                if (seen[layer] != 0) {
                    layersSeen++;
                }
            }
            cellsSeen = cellsIn(seen);
        }

        private void light(List<Road> roads) {
            litRoads = 0;
            for (int n = 0; n < roads.size(); n++) {
                if (roads.get(n).isLit(seen)) {
                    litRoads |= 1 << n;
                }
            }
        }

        private boolean fitAlong(Road road) {
            if (!road.isLit(seen)) {
                return false;
            }
            fit.along(road, seen);
            return true;
        }

        private void pile(List<Road> roads) {
            heap.empty();
            for (int n = 0; n < roads.size(); n++) {
                int worth = 0;
                if (isLit(n)) {
                    fit.along(roads.get(n), seen);
                    worth = fit.worth();
                }
                heap.put(worth, fit.cells);
            }
            heap.choose();
        }

        private boolean isLit(int road) {
            return road >= 0 && road < MOST_ROADS && (litRoads >> road & 1) == 1;
        }

        private boolean answers(int letter, int number) {
            switch (letter) {
                case 't':
                    return Integer.bitCount(heap.bestRoads) >= number;
                case 'h':
                    return cellsSeen >= number;
                case 'w':
                    return heap.bestSum >= number;
                case 'l':
                    return layersSeen >= number;
                default:
                    return isLit(number);
            }
        }
    }

    /** A row of letters, as it comes to the tape and as a line keeps it. */
    private static final class Text {
        private final char[] letters = new char[MOST_LETTERS];
        private int length;

        private void put(char letter) {
            if (length < MOST_LETTERS) {
                letters[length] = letter;
                length++;
            }
        }

        private void copy(Text other) {
            length = 0;
            for (int place = 0; place < other.length; place++) {
                put(other.letters[place]);
            }
        }

        private int letterAt(int place) {
            return place < 0 || place >= length ? NOWHERE : letters[place];
        }
    }

    /**
     * Reads a text from its first letter to its last: whether it holds, and its fault. Both
     * sides of | and & are always read, as what stands there must be passed over.
     */
    private static final class Reader {
        private Text text;
        private Look look;
        private int place;
        private int fault;

        private boolean read(Text newText, Look newLook) {
            text = newText;
            look = newLook;
            place = 0;
            fault = NOWHERE;
            boolean truth = readAny(0);
            if (place < text.length) {
                fail();
            }
            return truth;
        }

        private boolean readAny(int open) {
            boolean truth = readBoth(open);
            for (int n = 0; n < MOST_LETTERS && passOver('|'); n++) {
                boolean other = readBoth(open);
                truth = truth || other;
            }
            return truth;
        }

        private boolean readBoth(int open) {
            boolean truth = readOne(open);
            for (int n = 0; n < MOST_LETTERS && passOver('&'); n++) {
                boolean other = readOne(open);
                truth = truth && other;
            }
            return truth;
        }

        private boolean readOne(int open) {
            int letter = text.letterAt(place);
            if (letter != '!' && letter != '(') {
                return readAsked();
            }
            if (open >= MOST_OPEN) {
                return fail();
            }
            if (passOver('!')) {
                return !readOne(open + 1);
            }
            passOver('(');
            boolean truth = readAny(open + 1);
            return passOver(')') ? truth : fail();
        }

        private boolean readAsked() {
            int letter = text.letterAt(place);
            if (!canAsk(letter)) {
                return fail();
            }
            place++;
            int number = readNumber();
            return look.answers(letter, number);
        }

        private static boolean canAsk(int letter) {
            return letter == 't' || letter == 'h' || letter == 'w' || letter == 'l' || letter == 'r';
        }

        private int readNumber() {
            int number = 0;
            int figures = 0;
            while (figures < MOST_FIGURES && isFigure(text.letterAt(place))) {
                number = 10 * number + text.letterAt(place) - '0';
                figures++;
                place++;
            }
            if (figures == 0) {
                fail();
            }
            return number;
        }

        private static boolean isFigure(int letter) {
            return letter >= '0' && letter <= '9';
        }

        private boolean passOver(char letter) {
            if (fault != NOWHERE || text.letterAt(place) != letter) {
                return false;
            }
            place++;
            return true;
        }

        /** The first fault is the one that is told: what fails behind it fails because of it. */
        private boolean fail() {
            if (fault == NOWHERE) {
                fault = place;
            }
            return false;
        }
    }

    /** A line of the menu, with what it has counted. */
    private static final class Line {
        private final Text text = new Text();
        private final boolean bar;
        private int share;
        private int count;
        private int passed;
        private int kept;
        private int keptAlone;

        private Line(Text tape, int share, boolean bar) {
            this.text.copy(tape);
            this.share = share;
            this.bar = bar;
        }

        private boolean countPasses() {
            count++;
            if (share < 1 || count % share != 0) {
                return false;
            }
            passed++;
            return true;
        }

        private void credit(boolean alone) {
            kept++;
            if (alone) {
                keptAlone++;
            }
        }

        private void forget() {
            count = 0;
            passed = 0;
            kept = 0;
            keptAlone = 0;
        }
    }

    /** The latest kept crossings; the oldest one's place goes to the next one. */
    private static final class Raws {
        private final int[] numbers = new int[MOST_RAW];
        private final int[] passedLines = new int[MOST_RAW];
        private final int[] rows = new int[MOST_RAW * LAYERS];
        private int kept;

        private int size() {
            return Math.min(kept, MOST_RAW);
        }

        private boolean has(int k) {
            return k >= 0 && k < size();
        }

        private int slotOf(int k) {
            return Math.floorMod(kept - 1 - k, MOST_RAW);
        }

        private void keep(int number, int passed, int[] crossing) {
            kept++;
            int slot = slotOf(0);
            numbers[slot] = number;
            passedLines[slot] = passed;
            for (int layer = 0; layer < LAYERS; layer++) {
                rows[slot * LAYERS + layer] = crossing[layer];
            }
        }

        private int numberOf(int k) {
            return numbers[slotOf(k)];
        }

        private int passedAt(int k) {
            return passedLines[slotOf(k)];
        }

        private void copyHits(int k, int[] crossing) {
            int slot = slotOf(k);
            for (int layer = 0; layer < LAYERS; layer++) {
                crossing[layer] = rows[slot * LAYERS + layer];
            }
        }
    }
}
