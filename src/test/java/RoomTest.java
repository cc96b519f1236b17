import com.sun.management.ThreadMXBean;
import java.lang.management.ManagementFactory;

/** The dearest calls make nothing new: all rows are made with the object and used again. */
public final class RoomTest {
    /** The room's 7.3 million elements, were each of them one byte only. */
    private static final long ROOM = 7_300_000;

    public static void main(String[] args) {
        ThreadMXBean threads = (ThreadMXBean) ManagementFactory.getThreadMXBean();
        long thread = Thread.currentThread().getId();
        warm();
        long before = threads.getThreadAllocatedBytes(thread);
        SafeControl x = largest();
        long built = threads.getThreadAllocatedBytes(thread);
        for (int i = 0; i < 200; i++) {
            x.make();
            x.conflict(2, 3);
        }
        long after = threads.getThreadAllocatedBytes(thread);
        Check.isTrue("one object takes less than 200,000 bytes: " + (built - before), built - before < 200_000);
        Check.isTrue("400 dear calls take next to nothing: " + (after - built), after - built < 100_000);
        Check.isTrue("a run stays in the room", after - before < ROOM);
        Check.end();
    }

    private static void warm() {
        SafeControl x = largest();
        x.make();
        x.conflict(2, 3);
    }

    /** 200 product states with as many edges as they can have. */
    private static SafeControl largest() {
        SafeControl x = new SafeControl();
        int[] states = {5, 5, 4, 2};
        for (int e = 0; e < 12; e++) {
            x.event(e, e % 3 != 0);
        }
        for (int i = 0; i < 4; i++) {
            x.automaton(states[i], i / 2);
            x.tell(i, 0, 0, true);
            x.tell(i, states[i] - 1, 1, true);
            for (int s = 0; s < states[i]; s++) {
                for (int e = 0; e < 12; e++) {
                    x.edge(i, s, e, e % 4 == i ? (s + 1) % states[i] : s);
                }
            }
        }
        return x;
    }

    private RoomTest() {
    }
}
