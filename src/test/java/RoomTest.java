import com.sun.management.ThreadMXBean;
import java.lang.management.ManagementFactory;

/** All calls of one run live in one room: what an object and 512 of the dearest calls make is little. */
public final class RoomTest {
    private static final ThreadMXBean ROOM = (ThreadMXBean) ManagementFactory.getThreadMXBean();

    public static void main(String[] args) {
        // So that classes are there before anything is counted.
        run();
        long before = made();
        long calls = run();
        long bytes = made() - before;
        System.out.println(calls + " calls made " + bytes + " bytes");
        Check.holds("at most 512 calls", calls <= 512);
        // 7.3 million elements of a byte at least; kept far below.
        Check.holds("few bytes: " + bytes, bytes < 1500000);
        before = made();
        for (int i = 0; i < 10; i++) {
            new WashLine();
        }
        Check.holds("a new object: " + (made() - before) / 10, (made() - before) / 10 < 500000);
        Check.end();
    }

    private static long made() {
        return ROOM.getThreadAllocatedBytes(Thread.currentThread().getId());
    }

    private static long run() {
        WashLine w = new WashLine();
        long calls = 0;
        String world = "k1k2k3k4k5k0c00000";
        w.text(0, 18);
        for (int i = 0; i < 18; i++) {
            w.put(0, i, world.charAt(i));
            calls++;
        }
        w.world(0);
        w.row(0, 8);
        for (int m = 0; m < 12; m++) {
            w.monday(m % 2, 0, 9);
            calls++;
        }
        while (calls < 480) {
            w.hung((int) (calls % 12), 0, (int) (calls % 3));
            w.price(2, (int) (calls % 2));
            w.plain();
            w.ways();
            w.tale(1);
            w.share(0, 0, 0);
            w.see(0);
            w.fault(0);
            w.least();
            w.judge();
            w.digest();
            calls += 11;
        }
        return calls;
    }
}
