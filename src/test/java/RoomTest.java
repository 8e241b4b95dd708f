import com.sun.management.ThreadMXBean;
import java.lang.management.ManagementFactory;

/** The dearest run of 512 calls stays far below the room of 600,000 objects and 7.3 million elements. */
public final class RoomTest {
    private static final int CALLS = 512;
    /** An object takes 16 bytes at the least, so this is room for at most 250,000 of them. */
    private static final long MOST_BYTES = 4_000_000;

    public static void main(String[] args) {
        Due due = new Due();
        due.promise("room");
        ThreadMXBean threads = (ThreadMXBean) ManagementFactory.getThreadMXBean();
        dearestRun();
        long before = threads.getCurrentThreadAllocatedBytes();
        int cost = dearestRun();
        long bytes = threads.getCurrentThreadAllocatedBytes() - before;
        System.out.println("a run of packs made " + bytes + " bytes");
        // The window is full of forms at the bound before 14 and 28, so that these are whole, as 0 is.
        due.is("cost", cost, 3 * 15 + 37 * 3);
        due.is("stays in the room", bytes <= MOST_BYTES, true);
        due.close("RoomTest");
    }

    private static int dearestRun() {
        Packstack x = new Packstack();
        for (int i = 0; i < 40; i++) {
            x.store(5, 0x123456789ABCDEFL);
        }
        int cost = 0;
        for (int i = 40; i < CALLS; i++) {
            cost = x.pack(8, 1 + i % 2 * 5, i % 4 < 2);
        }
        return cost;
    }
}
