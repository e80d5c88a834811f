/** Long runs of thrown calls, each answer held against the model's. */
public final class RunsTest {
    private static final int RUNS = 600;
    private static final int CALLS = 512;
    private static final int[] ODD = {-1, Integer.MIN_VALUE, Integer.MAX_VALUE, 65536, -100, 12, 20, 21, 100, 101};
    private static final Due DUE = new Due("RunsTest");

    private final TriggerHall hall = new TriggerHall();
    private final Model model = new Model();
    private final Dice dice;
    private final int run;
    private final int density;
    private final int narrow;
    private String waiting = "";

    private RunsTest(int run) {
        this.run = run;
        this.dice = new Dice(run);
        this.density = 1 + dice.below(7);
        this.narrow = 4 + dice.below(13);
    }

    public static void main(String[] args) {
        for (int run = 1; run <= RUNS && DUE.wrong() < 20; run++) {
            RunsTest test = new RunsTest(run);
            for (int n = 0; n < CALLS; n++) {
                test.call();
            }
        }
        DUE.end();
    }

    private void due(String call, int got, int want) {
        DUE.is("run " + run + ": " + call, got, want);
    }

    /** Mostly from 0 to most, sometimes just beside that, sometimes far off. */
    private int number(int most) {
        if (dice.oneIn(25)) return ODD[dice.below(ODD.length)];
        if (dice.oneIn(25)) return dice.oneIn(2) ? -1 : most + 1;
        return dice.below(most + 1);
    }

    private int bits() {
        if (dice.oneIn(40)) return number(65535);
        return dice.oneIn(12) ? 65535 : dice.bits(density);
    }

    private int span() {
        if (dice.oneIn(60)) return dice.below(1700) - 20;
        int a = dice.below(narrow);
        return 100 * Math.min(a, 15) + Math.min(15, a + dice.below(4));
    }

    private void call() {
        if (!waiting.isEmpty()) {
            feedOn();
            return;
        }
        int kind = dice.below(100);
        if (kind < 12) sheetCall();
        else if (kind < 34) hitsCall();
        else if (kind < 44) roadCall();
        else if (kind < 62) trackCall();
        else if (kind < 78) menuCall();
        else crossingCall();
    }

    private void sheetCall() {
        int r = number(2);
        switch (dice.below(7)) {
            case 0 -> {
                int kind = number(2);
                int n = number(20);
                due("sheet(" + r + ", " + kind + ", " + n + ")", hall.sheet(r, kind, n), model.sheet(r, kind, n));
            }
            case 1 -> {
                if (dice.oneIn(4)) due("lose(" + r + ")", hall.lose(r), model.lose(r));
            }
            case 2 -> {
                int i = dice.oneIn(10) ? Integer.MAX_VALUE - dice.below(6) : number(19);
                due("load(" + r + ", " + i + ")", hall.load(r, i), model.load(r, i));
            }
            default -> {
                int i = number(19);
                int v = dice.oneIn(3) ? dice.bits(4) << 16 | dice.bits(4) : dice.below(300) - 150;
                due("cell(" + r + ", " + i + ", " + v + ")", hall.cell(r, i, v), model.cell(r, i, v));
            }
        }
    }

    private void hitsCall() {
        int layer = number(4);
        switch (dice.below(8)) {
            case 0 -> {
                int what = number(1);
                int bits = dice.oneIn(3) ? 0 : dice.oneIn(20) ? bits() : dice.bits(1);
                due("mask(" + layer + ", " + what + ", " + bits + ")",
                    hall.mask(layer, what, bits), model.mask(layer, what, bits));
            }
            case 1 -> {
                int what = number(3);
                due("layer(" + layer + ", " + what + ")", hall.layer(layer, what), model.layer(layer, what));
            }
            default -> {
                int bits = bits();
                due("hits(" + layer + ", " + bits + ")", hall.hits(layer, bits), model.hits(layer, bits));
            }
        }
    }

    private void roadCall() {
        if (dice.oneIn(3)) {
            int[] s = {span(), span(), span(), span(), span()};
            int need = dice.oneIn(20) ? number(5) : 1 + dice.below(5);
            due("road(" + s[0] + ", " + s[1] + ", " + s[2] + ", " + s[3] + ", " + s[4] + ", " + need + ")",
                hall.road(s[0], s[1], s[2], s[3], s[4], need), model.road(s[0], s[1], s[2], s[3], s[4], need));
            return;
        }
        int road = number(11);
        int layer = number(4);
        int span = span();
        due("span(" + road + ", " + layer + ", " + span + ")",
            hall.span(road, layer, span), model.span(road, layer, span));
    }

    private void trackCall() {
        int road = number(11);
        switch (dice.below(7)) {
            case 0 -> due("lit()", hall.lit(), model.lit());
            case 1 -> due("held(" + road + ")", hall.held(road), model.held(road));
            case 2 -> {
                int layer = number(4);
                due("track(" + road + ", " + layer + ")", hall.track(road, layer), model.track(road, layer));
            }
            case 3 -> {
                int what = number(1);
                due("miss(" + road + ", " + what + ")", hall.miss(road, what), model.miss(road, what));
            }
            case 4 -> due("weight(" + road + ")", hall.weight(road), model.weight(road));
            case 5 -> {
                int what = number(2);
                due("heap(" + what + ")", hall.heap(what), model.heap(what));
            }
            default -> due("blind()", hall.blind(), model.blind());
        }
    }

    private void menuCall() {
        int line = number(7);
        switch (dice.below(6)) {
            case 0, 1 -> waiting = dice.oneIn(4) ? Texts.spoilt(dice) : Texts.right(dice);
            case 2 -> due("holds(" + line + ")", hall.holds(line), model.holds(line));
            case 3 -> {
                int share = dice.oneIn(10) ? number(100) : 1 + dice.below(4);
                due("thin(" + line + ", " + share + ")", hall.thin(line, share), model.thin(line, share));
            }
            case 4 -> {
                if (dice.oneIn(4)) due("clear()", hall.clear(), model.clear());
            }
            default -> {
                int what = number(6);
                due("of(" + line + ", " + what + ")", hall.of(line, what), model.of(line, what));
            }
        }
    }

    private void feedOn() {
        int v = Hall.packed(waiting, 0);
        due("feed(" + v + ")", hall.feed(v), model.feed(v));
        waiting = waiting.substring(Math.min(4, waiting.length()));
        if (!waiting.isEmpty()) return;
        int share = dice.oneIn(10) ? number(100) : 1 + dice.below(3);
        boolean bar = dice.oneIn(5);
        int answer = hall.line(share, bar);
        due("line(" + share + ", " + bar + ")", answer, model.line(share, bar));
        if (answer < 0 && !dice.oneIn(4)) due("clear()", hall.clear(), model.clear());
    }

    private void crossingCall() {
        switch (dice.below(10)) {
            case 0 -> {
                int n = dice.oneIn(5) ? number(20) : dice.below(3);
                due("rest(" + n + ")", hall.rest(n), model.rest(n));
            }
            case 1 -> {
                int what = number(7);
                due("many(" + what + ")", hall.many(what), model.many(what));
            }
            case 2, 3 -> {
                int k = dice.oneIn(2) ? dice.below(4) : number(29);
                int what = number(7);
                due("raw(" + k + ", " + what + ")", hall.raw(k, what), model.raw(k, what));
            }
            case 4, 5 -> {
                int k = dice.oneIn(2) ? dice.below(4) : number(29);
                due("again(" + k + ")", hall.again(k), model.again(k));
            }
            case 6 -> {
                if (dice.oneIn(12)) due("anew()", hall.anew(), model.anew());
            }
            default -> due("fire()", hall.fire(), model.fire());
        }
    }
}
