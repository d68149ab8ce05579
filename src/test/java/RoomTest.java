import com.sun.management.ThreadMXBean;
import java.lang.management.ManagementFactory;

// All calls of one run live in one room: what the dearest runs make stays far below 7.3 million elements.
public final class RoomTest {
    private static final int CALLS = 512;
    private static final long MOST_BYTES = 8_000_000;
    private static final Check c = new Check("RoomTest");

    interface Run {
        void on(Switchyard x);
    }

    public static void main(String[] args) {
        roomOf("letters that wait on all links", RoomTest::writeWithoutTicks);
        roomOf("letters that go round", RoomTest::writeWithTicks);
        roomOf("what would be", RoomTest::askAhead);
        c.end();
    }

    // the first run loads classes, the second one is counted
    private static void roomOf(String what, Run run) {
        run.on(new Switchyard());
        ThreadMXBean threads = (ThreadMXBean) ManagementFactory.getThreadMXBean();
        long thread = Thread.currentThread().getId();
        long before = threads.getThreadAllocatedBytes(thread);
        run.on(new Switchyard());
        long made = threads.getThreadAllocatedBytes(thread) - before;
        System.out.println("RoomTest: " + what + ": " + made + " bytes");
        c.count(made < MOST_BYTES, what + " made " + made + " bytes");
    }

    // returns how many calls it took
    private static int fill(Switchyard x) {
        for (int i = 0; i < 8; i++) {
            x.addRouter();
        }
        for (int i = 0; i < 14; i++) {
            x.addLink(i < 8 ? i % 2 : i % 8, i < 8 ? 1 - i % 2 : (i + 1) % 8, 1, 1, 20);
        }
        for (int i = 0; i < 24; i++) {
            x.addNetwork(i % 2, i * 256, 8);
        }
        return 8 + 14 + 24;
    }

    private static void writeWithoutTicks(Switchyard x) {
        for (int i = fill(x); i < CALLS; i++) {
            x.setCost(0, 1 + i % 2);
        }
        c.count(x.letters() > 4000, "there are many letters: " + x.letters());
        x.settledIn(60);
    }

    private static void writeWithTicks(Switchyard x) {
        for (int i = fill(x); i < CALLS; i++) {
            if (i % 2 == 0) {
                x.step(1 + i % 60);
            } else {
                x.setUp(i % 14, !x.isUp(i % 14));
            }
        }
    }

    private static void askAhead(Switchyard x) {
        int calls = fill(x);
        for (int i = 0; i < 12; i++) {
            x.addFlow(i % 2, 5 * 256, 20, i % 4);
            x.schedule(i, 0, 1, 60);
        }
        for (int i = calls + 24; i < CALLS; i++) {
            x.deliveredIn(i % 12, 60);
        }
    }
}
