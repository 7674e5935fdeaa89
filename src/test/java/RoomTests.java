import com.sun.management.ThreadMXBean;
import java.lang.management.ManagementFactory;

/** All calls of a run share one room, so that the dearest call may make next to nothing. */
public final class RoomTests {
    private static final int CALLS = 512;
    private static final long MOST_BYTES = 100_000;

    public static void main(String[] args) {
        TinCellar x = full();
        x.digest();
        ThreadMXBean threads = (ThreadMXBean) ManagementFactory.getThreadMXBean();
        long thread = Thread.currentThread().getId();
        threads.getThreadAllocatedBytes(thread);
        long before = threads.getThreadAllocatedBytes(thread);
        for (int i = 0; i < CALLS; i++) {
            x.digest();
        }
        long made = threads.getThreadAllocatedBytes(thread) - before;
        Check check = new Check();
        check.part("room");
        check.same(CALLS + " digests make more than " + MOST_BYTES + " bytes", made > MOST_BYTES, false);
        check.end();
    }

    private static TinCellar full() {
        TinCellar x = new TinCellar();
        for (int batch = 0; batch < 6; batch++) {
            x.addBatch(99, 0);
            x.seal(batch, batch % 4, 10);
        }
        return x;
    }
}
