import com.sun.management.ThreadMXBean;
import java.lang.management.ManagementFactory;

/** The room that a run takes: all rows are made by the constructor, none by a call. */
public final class RoomTest {
    private static final Check CHECK = new Check("RoomTest");
    private static final ThreadMXBean THREADS = (ThreadMXBean) ManagementFactory.getThreadMXBean();
    /** The room's 7.3 million elements would hold 512 objects of this many bytes each. */
    private static final long OBJECT_BYTES = 14_000;

    public static void main(String[] args) {
        // Once before it counts, so that classes are loaded and constants are made.
        useEveryCall(new NoiseEngine());
        allocated();
        long before = allocated();
        NoiseEngine x = new NoiseEngine();
        long made = allocated() - before;
        CHECK.due("the constructor makes " + made + " bytes, which is little", made > 0 && made < OBJECT_BYTES, true);
        before = allocated();
        useEveryCall(x);
        long later = allocated() - before;
        CHECK.due("some 350 calls make " + later + " bytes, which asking alone may have made", later < 500, true);
        CHECK.end();
    }

    private static long allocated() {
        return THREADS.getThreadAllocatedBytes(Thread.currentThread().getId());
    }

    private static void useEveryCall(NoiseEngine x) {
        for (int i = 0; i < 50; i++) {
            x.feed(i, i, i, i, i);
        }
        x.seal(0, 1, 16, 984);
        x.take(1);
        x.turn();
        x.patch(3, 3);
        x.open(0, 1, 0, 1000);
        x.turn();
        x.key(2);
        x.curve(2, true);
        x.turn();
        x.curve(1, false);
        x.turn();
        x.hash(32);
        x.mac(2, 0);
        x.start(0, true, 0, 1, 0);
        x.start(1, false, 2, 3, 0);
        for (int step = 0; step < 3; step++) {
            x.write(step % 2, 0);
            x.read(1 - step % 2, 0);
            x.read(1 - step % 2, x.turn());
        }
        for (int i = 0; i < 50; i++) {
            x.send(0, 0);
            x.rekey(0, true);
            x.rekey(1, false);
            x.receive(1, x.turn());
        }
        for (int i = -1; i < 9; i++) {
            x.state(1, i);
            x.told(0, i, i);
            x.out(i);
            x.count(i);
        }
    }
}
