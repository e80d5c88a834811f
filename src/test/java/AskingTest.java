import java.util.function.Consumer;
import java.util.function.ToIntFunction;

/** What only asks leaves all as it is: promises 8, 11 to 17, 22, 23, 26 and 27. */
public final class AskingTest {
    private static final Due DUE = new Due("AskingTest");
    private static final Twins TWINS = new Twins(DUE);

    public static void main(String[] args) {
        asksAll("new", hall -> { });
        asksAll("busy", States::busy);
        asksAll("nearly full", States::nearlyFull);
        asksAll("full", States::full);
        DUE.end();
    }

    private static void asksAll(String state, Consumer<TriggerHall> made) {
        asks(made, "8: hits, " + state, hall -> hall.layer(0, 0));
        asks(made, "8: seen, " + state, hall -> hall.layer(4, 1));
        asks(made, "11: lit, " + state, TriggerHall::lit);
        asks(made, "12: held, " + state, hall -> hall.held(0));
        asks(made, "13: track, " + state, hall -> hall.track(1, 2));
        asks(made, "14: above, " + state, hall -> hall.miss(1, 0));
        asks(made, "14: below, " + state, hall -> hall.miss(0, 1));
        asks(made, "15: weight, " + state, hall -> hall.weight(1));
        for (int n = 0; n < 3; n++) {
            int what = n;
            asks(made, "16: heap " + n + ", " + state, hall -> hall.heap(what));
        }
        asks(made, "17: blind, " + state, TriggerHall::blind);
        asks(made, "18: no letter, " + state, hall -> hall.feed(0x61616100));
        for (int n = 0; n < 8; n++) {
            int number = n;
            asks(made, "22: holds " + n + ", " + state, hall -> hall.holds(number));
            asks(made, "23: of " + n + ", " + state, hall -> hall.of(1, number));
            asks(made, "26: many " + n + ", " + state, hall -> hall.many(number));
            asks(made, "27: raw " + n + ", " + state, hall -> hall.raw(1, number));
        }
    }

    private static void asks(Consumer<TriggerHall> made, String what, ToIntFunction<TriggerHall> call) {
        TriggerHall hall = new TriggerHall();
        made.accept(hall);
        TWINS.leavesAll(made, what, call.applyAsInt(hall), call);
    }
}
