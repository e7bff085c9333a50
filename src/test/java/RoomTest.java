import com.sun.management.ThreadMXBean;
import java.lang.management.ManagementFactory;
import java.util.function.ToLongFunction;

/**
 * An object and all its calls, of the dearest kinds, take little of the room that there is: 600,000 objects and
 * 7.3 million fields. An object takes 16 bytes at least, an element of a row one.
 */
public final class RoomTest {
    private static final Check CHECK = new Check("RoomTest");
    private static final int CALLS = 440;
    private static final long MOST_BYTES = 1_000_000;
    private static final String LARGEST = "h6;w0115;w1005;w1215;w2105;w2315;w3205;w3415;w4305";

    public static void main(String[] args) {
        room("house", x -> x.house(0, 0, 0, LARGEST.length()));
        room("house with a fault", x -> x.house(0, 0, 0, LARGEST.length() - 1));
        room("fewest", x -> x.fewest(0, 5, -1));
        room("laid", x -> x.laid(0, 5, -1));
        room("strangers", x -> x.strangers(0, 5, -1));
        room("guest", x -> x.guest(0, 5));
        room("grows", x -> x.grows(0, 1, 0));
        room("reach", x -> x.reach(15, 0));
        room("heard", x -> x.heard(1, 0, 0, 60));
        room("byStrangers", x -> x.byStrangers(0, 1, 0, 0, 60));
        room("sheet", x -> x.sheet(2, 2, 60));
        room("copy", x -> x.copy(1, 0, 1, 1, 59));
        room("tell", x -> x.tell(0));
        room("as", x -> x.as(0, 0));
        CHECK.end();
    }

    private static long allocated() {
        return ((ThreadMXBean) ManagementFactory.getThreadMXBean()).getThreadAllocatedBytes(Thread.currentThread().getId());
    }

    private static void room(String call, ToLongFunction<SillHouse> made) {
        int[] codes = Check.codes(LARGEST);
        long before = allocated();
        SillHouse x = new SillHouse();
        x.sheet(0, 0, codes.length);
        for (int i = 0; i < codes.length; i++) {
            x.put(0, i, codes[i]);
        }
        x.house(0, 0, 0, codes.length);
        x.sheet(1, 0, 60);
        x.person(10, 0);
        for (int s = 0; s < 4; s++) {
            x.stone(1, s);
        }
        for (int k = 0; k < CALLS; k++) {
            made.applyAsLong(x);
        }
        long bytes = allocated() - before;
        CHECK.due("bytes of " + CALLS + " calls of " + call + ": " + bytes, bytes < MOST_BYTES ? 1 : 0, 1);
    }
}
