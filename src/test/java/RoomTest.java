import com.sun.management.ThreadMXBean;
import java.lang.management.ManagementFactory;

/**
 * All calls of one run live in one room of some 600,000 objects and 7.3 million fields and elements. Each of these takes
 * a byte at least, and each object 16: so a run that makes less than 7.3 million bytes stays within the room.
 */
public final class RoomTest {
    private static final long ROOM = 7_300_000;
    private static final int MOST_CALLS = 512;
    private static final String LONGEST = "20,20,20,20;10,11,12,13;14,15,16,17;18,19,20,10";

    private static final ThreadMXBean BEAN = (ThreadMXBean) ManagementFactory.getThreadMXBean();

    // Kept where the compiler can't see that nobody asks for it.
    private static long kept;

    private interface Call {
        long on(MudShares x, int number);
    }

    private final Check check = new Check("RoomTest");

    public static void main(String[] args) {
        RoomTest t = new RoomTest();
        t.within("letter()", (x, n) -> n % 48 == 47 ? x.blank() : x.letter(32 + n % 95));
        t.within("fault()", (x, n) -> n < 47 ? x.letter(LONGEST.charAt(n)) : x.fault());
        t.within("sources()", (x, n) -> n % 48 < 47 ? x.letter(LONGEST.charAt(n % 48)) : x.sources());
        t.asked("set()", (x, n) -> x.set(n % 4, n / 4 % 2, 1 + n % 5));
        t.asked("alter()", (x, n) -> x.alter(n % 4, n / 4 % 4, n % 21));
        t.asked("made()", (x, n) -> x.made(1 + n));
        t.asked("has()", (x, n) -> x.has(n % 4, n / 4 % 4));
        t.asked("tracer()", (x, n) -> x.tracer(n % 4, n / 4 % 2));
        t.asked("alike()", (x, n) -> x.alike(3, 1 + n % 15));
        t.asked("best()", (x, n) -> x.best(1 + n % 15, n / 15 % 4));
        t.asked("share()", (x, n) -> x.share(n % 4, 1 + n % 15, n / 4 % 2));
        t.asked("press()", (x, n) -> x.press(n % 4, 1 + n % 15, n / 4 % 2));
        t.asked("mixed()", (x, n) -> x.mixed(n % 4, 1 + n % 15, n / 4 % 2));
        t.asked("corner()", (x, n) -> x.corner(1 + n % 15, 15, n / 15 % 3));
        t.asked("count()", (x, n) -> x.count(n % 5));
        t.asked("digest()", (x, n) -> x.digest());
        t.check.end();
    }

    /** A run of one call alone, behind a text of four sources with four tracers. */
    private void asked(String name, Call call) {
        within(name, (x, n) -> n < 47 ? x.letter(LONGEST.charAt(n)) : n == 47 ? x.sources() : call.on(x, n));
    }

    private void within(String name, Call call) {
        long before = bytes();
        MudShares x = new MudShares();
        for (int n = 0; n < MOST_CALLS; n++) {
            kept += call.on(x, n);
        }
        long made = bytes() - before;
        check.due("a run of " + name + " makes " + made + " bytes, that is within the room", made < ROOM);
    }

    private static long bytes() {
        return BEAN.getThreadAllocatedBytes(Thread.currentThread().getId());
    }
}
