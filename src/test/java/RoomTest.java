import com.sun.management.ThreadMXBean;
import java.lang.management.ManagementFactory;

/** What a run makes: every call lives in one room, so the dearest ones may make nothing. */
public final class RoomTest {
    private static final Due DUE = new Due("RoomTest");
    private static final ThreadMXBean METER = (ThreadMXBean) ManagementFactory.getThreadMXBean();
    private static final int CALLS = 400;
    /** For the meter's own objects. */
    private static final int SLACK = 8 * 1024;
    private static final int HALL = 16 * 1024;

    public static void main(String[] args) {
        for (int warm = 0; warm < 3; warm++) {
            dearest(fullHall());
        }
        TriggerHall hall = fullHall();
        long before = METER.getThreadAllocatedBytes(Thread.currentThread().getId());
        dearest(hall);
        long made = METER.getThreadAllocatedBytes(Thread.currentThread().getId()) - before;
        DUE.holds(CALLS + " rounds of the dearest calls made " + made + " bytes", made <= SLACK);
        before = METER.getThreadAllocatedBytes(Thread.currentThread().getId());
        fullHall();
        made = METER.getThreadAllocatedBytes(Thread.currentThread().getId()) - before;
        DUE.holds("a full hall made " + made + " bytes", made <= HALL + SLACK);
        DUE.end();
    }

    private static TriggerHall fullHall() {
        TriggerHall hall = new TriggerHall();
        for (int n = 0; n < 12; n++) {
            int low = 101 * n + 3;
            hall.road(low, 1215, low, 3, low, 1);
        }
        for (int n = 0; n < 8; n++) {
            hall.feed(0x31313174);
            hall.feed(0x3168217C);
            hall.line(1, false);
        }
        for (int r = 0; r < 3; r++) {
            hall.sheet(r, 2, 20);
            for (int i = 0; i < 20; i++) {
                hall.cell(r, i, -1);
            }
        }
        hall.feed(0x7C7C7C7C);
        return hall;
    }

    private static void dearest(TriggerHall hall) {
        for (int n = 0; n < CALLS; n++) {
            hall.sheet(2, 2, 20);
            hall.load(0, 0);
            hall.heap(0);
            hall.holds(7);
            hall.miss(11, 0);
            hall.weight(11);
            hall.track(11, 4);
            hall.blind();
            hall.line(1, false);
            hall.road(3, 3, 3, 3, 3, 1);
            hall.fire();
            hall.raw(0, 7);
            hall.again(0);
            hall.lose(2);
            hall.anew();
        }
    }
}
