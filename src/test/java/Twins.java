import java.util.ArrayList;
import java.util.List;
import java.util.function.Consumer;
import java.util.function.Function;
import java.util.function.ToIntFunction;

/**
 * Two halls made alike, of which one gets a call that may change nothing: whatever is asked of
 * both then, they answer the same. Each round of questions has halls of its own, as some
 * questions change a hall, and as a hall is used for at most 512 calls.
 */
final class Twins {
    private static final List<Function<TriggerHall, List<Integer>>> QUESTIONS = List.of(
        Twins::ofTracks, Twins::ofSheets, Twins::ofRoads, Twins::ofMenu, Twins::ofTape, Twins::ofCrossings,
        Twins::ofNextOnes);

    private final Due due;

    Twins(Due due) {
        this.due = due;
    }

    /** The call is refused so in every state. */
    void refused(String what, int want, ToIntFunction<TriggerHall> call) {
        leavesAll(hall -> { }, "new, " + what, want, call);
        leavesAll(States::busy, "busy, " + what, want, call);
        leavesAll(States::nearlyFull, "nearly full, " + what, want, call);
        leavesAll(States::full, "full, " + what, want, call);
    }

    /** The call, in a hall that is made so, answers that and leaves all as it is. */
    void leavesAll(Consumer<TriggerHall> made, String what, int want, ToIntFunction<TriggerHall> call) {
        for (Function<TriggerHall, List<Integer>> question : QUESTIONS) {
            TriggerHall left = new TriggerHall();
            made.accept(left);
            TriggerHall called = new TriggerHall();
            made.accept(called);
            due.is(what, call.applyAsInt(called), want);
            List<Integer> before = question.apply(left);
            List<Integer> after = question.apply(called);
            due.holds(what + " changes nothing: " + before + " and " + after, before.equals(after));
        }
    }

    private static List<Integer> ofTracks(TriggerHall hall) {
        List<Integer> told = new ArrayList<>();
        for (int layer = 0; layer < 5; layer++) {
            for (int what = 0; what < 4; what++) {
                told.add(hall.layer(layer, what));
            }
        }
        told.addAll(List.of(hall.lit(), hall.blind(), hall.heap(0), hall.heap(1), hall.heap(2)));
        for (int road = 0; road < 12; road++) {
            told.addAll(List.of(hall.held(road), hall.miss(road, 0), hall.miss(road, 1), hall.weight(road)));
            for (int layer = 0; layer < 5; layer++) {
                told.add(hall.track(road, layer));
            }
        }
        return told;
    }

    private static List<Integer> ofSheets(TriggerHall hall) {
        List<Integer> told = new ArrayList<>();
        loadAll(hall, told);
        for (int r = 0; r < 3; r++) {
            for (int i = 0; i < 21; i++) {
                // bytes, unlike shorts and ints, make 0xFF80 of it
                told.add(hall.cell(r, i, 0x180));
            }
        }
        loadAll(hall, told);
        for (int r = 0; r < 3; r++) {
            told.add(hall.lose(r));
        }
        return told;
    }

    private static void loadAll(TriggerHall hall, List<Integer> told) {
        for (int r = 0; r < 3; r++) {
            for (int i = 0; i <= 20; i += 5) {
                told.add(hall.load(r, i));
                for (int layer = 0; layer < 5; layer++) {
                    told.add(hall.layer(layer, 0));
                }
            }
        }
    }

    /** The spans become alike first, so the needs alone say which roads are lit. */
    private static List<Integer> ofRoads(TriggerHall hall) {
        List<Integer> told = new ArrayList<>();
        for (int layer = 0; layer < 5; layer++) {
            for (int road = 0; road < 12; road++) {
                told.add(hall.span(road, layer, 3));
            }
            told.add(hall.mask(layer, 0, 0));
            told.add(hall.mask(layer, 1, 0));
            hall.hits(layer, 0);
        }
        for (int layer = 0; layer < 5; layer++) {
            hall.hits(layer, 1);
            told.add(hall.lit());
        }
        told.add(hall.road(3, 3, 3, 3, 3, 1));
        return told;
    }

    private static List<Integer> ofMenu(TriggerHall hall) {
        List<Integer> told = new ArrayList<>();
        for (int line = 0; line < 8; line++) {
            for (int what = 0; what < 7; what++) {
                told.add(hall.of(line, what));
            }
        }
        for (int n = 0; n < 12; n++) {
            hall.hits(n % 5, 0xFF >> n % 9);
            for (int line = 0; line < 8; line++) {
                told.add(hall.holds(line));
            }
        }
        return told;
    }

    private static List<Integer> ofTape(TriggerHall hall) {
        List<Integer> told = new ArrayList<>();
        told.add(hall.feed(0));
        told.add(hall.line(1, false));
        told.add(hall.feed(0));
        int last = hall.many(1) - 1;
        told.add(last);
        told.add(hall.of(last, 6));
        for (int n = 0; n < 12; n++) {
            hall.hits(n % 5, 0xFF >> n % 9);
            told.add(hall.holds(last));
        }
        told.add(hall.clear());
        return told;
    }

    private static List<Integer> ofCrossings(TriggerHall hall) {
        List<Integer> told = new ArrayList<>();
        for (int what = 0; what < 8; what++) {
            told.add(hall.many(what));
        }
        told.add(hall.rest(0));
        for (int k = 0; k < 31; k++) {
            for (int what = 0; what < 8; what++) {
                told.add(hall.raw(k, what));
            }
        }
        told.add(hall.again(0));
        told.add(hall.anew());
        return told;
    }

    /** What comes of the crossing in hand and those behind it. */
    private static List<Integer> ofNextOnes(TriggerHall hall) {
        List<Integer> told = new ArrayList<>();
        for (int n = 0; n < 30; n++) {
            told.add(hall.fire());
            Hall.hits(hall, n, n / 2, 2 * n);
        }
        for (int what = 0; what < 8; what++) {
            told.add(hall.many(what));
        }
        return told;
    }
}
