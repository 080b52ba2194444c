import com.sun.management.ThreadMXBean;
import java.lang.management.ManagementFactory;

/** "All memory is rows made once.": a new object is small, and its calls make nothing. */
public final class MemoryTest {
    private static final ThreadMXBean THREADS = (ThreadMXBean) ManagementFactory.getThreadMXBean();
    /** Now and then the machine makes something of its own meanwhile: the least of some tries is the call's. */
    private static final int TRIES = 8;
    private static final int MOST_OF_A_NEW_OBJECT = 4000;
    private static HeatOrder kept = null;

    private interface Asked {
        void on(HeatOrder x);
    }

    public static void main(String[] args) {
        long made = leastBytes(null, x -> kept = new HeatOrder());
        Check.report("bytes of a new object, few", "true", Boolean.toString(made > 0 && made < MOST_OF_A_NEW_OBJECT));
        makesNothing("due", x -> x.due(5, 69));
        makesNothing("rules", x -> x.rules(60, 40, 500, 20, 200));
        makesNothing("costs", x -> x.costs(500, 1));
        makesNothing("move", x -> x.move(0, 0, 0));
        makesNothing("run of all nodes", x -> x.run(100000));
        makesNothing("run of no node", x -> x.run(0));
        makesNothing("planned", x -> x.planned(1));
        makesNothing("step", x -> x.step(5, 5));
        makesNothing("told", x -> x.told(0));
        makesNothing("tell", x -> x.tell(0x89ABCD, 6));
        makesNothing("bound", x -> x.bound());
        makesNothing("clash of none", x -> x.clash());
        makesNothing("clash of some", x -> {
            x.rules(0, 500, 0, 1, 0);
            x.clash();
        });
        heatMakesNothing();
        Check.end();
    }

    private static void makesNothing(String name, Asked call) {
        HeatOrder x = new HeatOrder();
        for (int k = 0; k < 6; k++) {
            addHeat(x);
        }
        x.rules(60, 40, 500, 20, 200);
        x.run(100000);
        Check.report(name + ": bytes made", "0", Long.toString(leastBytes(x, call)));
    }

    /** An object has six heats at most: there are as few tries. */
    private static void heatMakesNothing() {
        HeatOrder x = new HeatOrder();
        long least = Long.MAX_VALUE;
        for (int k = 0; k < 6; k++) {
            least = Math.min(least, bytes(x, MemoryTest::addHeat));
        }
        Check.report("heat: bytes made", "0", Long.toString(least));
    }

    private static void addHeat(HeatOrder x) {
        x.heat(0, 1000, 10, 10, 69, 3);
    }

    private static long leastBytes(HeatOrder x, Asked call) {
        long least = Long.MAX_VALUE;
        for (int k = 0; k < TRIES; k++) {
            least = Math.min(least, bytes(x, call));
        }
        return least;
    }

    private static long bytes(HeatOrder x, Asked call) {
        long before = THREADS.getCurrentThreadAllocatedBytes();
        call.on(x);
        return THREADS.getCurrentThreadAllocatedBytes() - before;
    }
}
