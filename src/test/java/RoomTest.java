import com.sun.management.ThreadMXBean;
import java.lang.management.ManagementFactory;

/** LANGUAGE.md, rule 12: an object makes its rows when it is made, and its dearest calls make no more. */
public final class RoomTest {
    private static final int MOST_OF_AN_OBJECT = 1_000_000;
    private static final int MOST_OF_THE_CALLS = 100_000;

    public static void main(String[] args) {
        Check check = new Check("RoomTest");
        ThreadMXBean threads = (ThreadMXBean) ManagementFactory.getThreadMXBean();
        use(Check.loaded("grid 6 6;"));
        long start = threads.getCurrentThreadAllocatedBytes();
        ChipNetwork net = Check.loaded("grid 6 6;dead 7 east;dead 9 north;dead 20 east;");
        long made = threads.getCurrentThreadAllocatedBytes();
        use(net);
        long end = threads.getCurrentThreadAllocatedBytes();
        System.out.println("RoomTest: " + (made - start) + " bytes for an object, " + (end - made) + " for its calls");
        check.is("an object is small", made - start < MOST_OF_AN_OBJECT, true);
        check.is("its calls make nothing", end - made < MOST_OF_THE_CALLS, true);
        check.end();
    }

    private static void use(ChipNetwork net) {
        for (int k = 0; k < 24; k++) {
            net.send(k, 35 - k, 200);
        }
        for (int n = 0; n < 28; n++) {
            net.tick(2);
            net.saveSnapshot(n % 2);
            net.leastLimit(n, 35);
            net.fate(35, n, 200);
            net.quietIn(500);
            net.stateIn(23, 500);
            net.ways(14, n, 8);
            net.bridge(n);
            net.cut(n, 35);
            net.farthest(n);
            net.parts();
            net.write(n % 24);
            net.mostFound();
            net.digest();
            net.believed(0, n);
            net.undo();
            net.restoreSnapshot(n % 2);
        }
        net.tick(500);
    }
}
