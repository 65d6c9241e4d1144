import com.sun.management.ThreadMXBean;
import java.lang.management.ManagementFactory;

/** What the dearest object makes, and what calls make that have nothing to keep. */
public final class RoomTest {
    private static final int MOST_BYTES = 160_000;
    private static final int MOST_BYTES_OF_NEW = 16_000;

    public static void main(String[] args) {
        dearest();
        idle(dearest());
        long before = bytes();
        PanelHouse house = new PanelHouse();
        Checks.due("bytes of a new object fit", bytes() - before <= MOST_BYTES_OF_NEW, true);
        before = bytes();
        house = dearest();
        long made = bytes() - before;
        System.out.println(made + " bytes for the dearest object");
        Checks.due("bytes of the dearest object fit", made <= MOST_BYTES, true);
        before = bytes();
        idle(house);
        Checks.due("calls that keep nothing make nothing", bytes() - before <= 1000, true);
        Checks.end();
    }

    private static long bytes() {
        ThreadMXBean threads = (ThreadMXBean) ManagementFactory.getThreadMXBean();
        return threads.getThreadAllocatedBytes(Thread.currentThread().getId());
    }

    private static PanelHouse dearest() {
        PanelHouse house = new PanelHouse();
        for (int i = 0; i < 11; i++) {
            house.feature(0, 0, 1, 1, 1);
        }
        for (int i = 0; i < 21; i++) {
            house.paper(0, 0, 100000);
        }
        for (int i = 0; i < 61; i++) {
            house.sign(i % 20, i / 20);
        }
        for (int i = 0; i < 20; i++) {
            feedLongText(house);
            house.text();
            house.weeks(10);
        }
        return house;
    }

    /** "rate 1 w", "hen 1 ;", and then sums, as long as the tape takes them: the text is whole by its last feed. */
    private static void feedLongText(PanelHouse house) {
        house.feed(0x7261746520312077L, 0x68656E2031202B31L, 0);
        for (int i = 0; i < 24; i++) {
            house.feed(0x2B312B312B312B31L, 0x2B312B312B312B31L, 0x2B312B312B312B31L);
        }
        house.feed(0x3B00000000000000L, 0, 0);
    }

    private static void idle(PanelHouse house) {
        for (int i = 0; i < 60; i++) {
            house.circulation(i, 5);
            house.right(i % 20, i % 50, 1 + i);
            house.sign(i, 0);
            house.miss(i);
            house.send(i);
            house.feed(-1L, 0x4141414141414141L, i);
            house.text();
            house.look(i, i % 10);
            house.share(i, i % 3);
            house.sells(i, i);
            house.count(i % 10);
        }
    }
}
