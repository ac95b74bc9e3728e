import com.sun.management.ThreadMXBean;
import java.lang.management.ManagementFactory;

/** All calls of one run live in one room: no call makes objects, and a new object is small. */
public final class RoomTest {
    private static final int TIMES = 2000;

    // The smallest object takes 16 bytes: what stays below that a call makes none in it.
    private static final long LEAST_OBJECT = 16;
    private static final long MOST_FOR_NEW = 1600;

    private static final ThreadMXBean BEAN = (ThreadMXBean) ManagementFactory.getThreadMXBean();

    // Kept where the compiler can't see that nobody asks for it.
    private static long kept;
    private static MudShares keptObject;

    public static void main(String[] args) {
        Check check = new Check("RoomTest");
        callsOnce();
        creations();
        check.due("calls make no objects", callsOnce() < LEAST_OBJECT * TIMES);
        check.due("a new object is small", creations() / TIMES < MOST_FOR_NEW);
        check.due("something was asked", kept != 0 && keptObject != null);
        check.end();
    }

    private static long bytes() {
        return BEAN.getThreadAllocatedBytes(Thread.currentThread().getId());
    }

    private static long creations() {
        long before = bytes();
        for (int i = 0; i < TIMES; i++) {
            keptObject = new MudShares();
        }
        return bytes() - before;
    }

    private static long callsOnce() {
        MudShares x = new MudShares();
        long before = bytes();
        for (int i = 0; i < TIMES; i++) {
            everyCall(x, i);
        }
        return bytes() - before;
    }

    private static void everyCall(MudShares x, int i) {
        for (int s = 0; s < 4; s++) {
            for (int t = 0; t < 3; t++) {
                if (t + s > 0) kept += x.letter(t > 0 ? ',' : ';');
                kept += x.letter('0' + (i + 3 * s + 5 * t) % 10);
            }
        }
        kept += x.fault() + x.sources() + x.set(0, 0, i % 21) + x.set(1, 1, 1 + i % 5) + x.alter(3, 2, i % 21);
        kept += x.made(1 + i % 9999) + x.has(0, 3) + x.tracer(0, 0) + x.alike(3, 1) + x.best(7, 1) + x.share(1, 7, 0);
        kept += x.press(2, 3, 0) + x.mixed(2, 5, 1) + x.corner(15, 7, 1) + x.count(4) + x.digest() + x.letter(0) + x.blank();
    }
}
