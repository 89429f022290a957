import com.sun.management.ThreadMXBean;
import java.lang.management.ManagementFactory;

/** All calls of a run live in one room: what an object takes, and that its calls make nothing new. */
public final class RoomTest {
    private static final long MOST_OF_OBJECT = 32768;
    private static final long MOST_OF_CALLS = 4096;

    private static long sink = 0;

    private static void close(IndexBureau x, int round) {
        for (int s = 0; s < 8; s++) {
            x.set(s, 0, 9999999 - 977 * s - round);
            x.event(0, s, 2, 1, 0);
            x.event(8, s, 20 + s, 0, 0);
        }
        sink += x.close();
    }

    private static void ask(IndexBureau x) {
        for (int i = 0; i < 3; i++) {
            sink += x.print(i, 0) + x.character(i) + x.places(i) + x.weight(i) + x.outcome(i) + x.noted(i);
        }
        sink += x.level() + x.published(0) + x.days() + x.members() + x.check();
    }

    private static IndexBureau make() {
        IndexBureau x = new IndexBureau();
        x.base(255, 1000);
        return x;
    }

    private static long allocated() {
        ThreadMXBean threads = (ThreadMXBean) ManagementFactory.getThreadMXBean();
        return threads.getThreadAllocatedBytes(Thread.currentThread().getId());
    }

    private static boolean fits() {
        long start = allocated();
        IndexBureau x = make();
        long made = allocated();
        for (int round = 0; round < 10; round++) {
            close(x, round);
            ask(x);
        }
        long called = allocated();
        System.out.println("bytes: " + (made - start) + " of an object, " + (called - made) + " of its calls");
        return made - start <= MOST_OF_OBJECT && called - made <= MOST_OF_CALLS;
    }

    public static void main(String[] args) {
        // The first run loads classes, which may count; a later one shows what the calls make.
        boolean fits = false;
        for (int i = 0; i < 5 && !fits; i++) {
            fits = fits();
        }
        if (!fits) {
            System.out.println("too much is made");
            System.exit(1);
        }
    }
}
