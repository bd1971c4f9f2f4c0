import com.sun.management.ThreadMXBean;
import java.lang.management.ManagementFactory;

/** All calls of a run live in one room: what the dearest runs of 512 calls make is counted in bytes. */
public final class RoomTest {
    private static final int CALLS = 512;
    // The room has 7.3 million fields and elements; these runs stay under a twentieth of that.
    private static final long MOST_BYTES = 365_000L * 8;
    private static final long MOST_BYTES_OF_NEW = 4_000;

    private final Check check = new Check();
    private final ThreadMXBean threads = (ThreadMXBean) ManagementFactory.getThreadMXBean();

    public static void main(String[] args) {
        RoomTest test = new RoomTest();
        test.newObject();
        for (int kind = 0; kind < 6; kind++) {
            test.dearRun(kind);
        }
        test.growingRun();
        test.check.end();
    }

    private long made() {
        return threads.getCurrentThreadAllocatedBytes();
    }

    private void newObject() {
        TableOrders first = new TableOrders();
        first.total();
        long before = made();
        TableOrders x = new TableOrders();
        long bytes = made() - before;
        check.holds("a new object of " + bytes + " bytes is small", bytes < MOST_BYTES_OF_NEW && x.told(0) == 0);
    }

    private static TableOrders full() {
        TableOrders x = new TableOrders();
        for (int i = 0; i < 12; i++) {
            x.name(i < 4 ? 4 : 2);
        }
        for (int i = 0; i < 16; i++) {
            x.factor(1 << i % 12 | 1 << (i + 3) % 12 | 1 << (i + 7) % 12 | 1 << 11);
        }
        return x;
    }

    /** Changes the model before each dear call, so that nothing that was found before can be used. */
    private void dearRun(int which) {
        long before = made();
        TableOrders x = full();
        for (int call = 28; call < CALLS; call += 2) {
            x.put(call % 16, call % 8, 1 + call % 7);
            dearCall(x, which, call);
        }
        long bytes = made() - before;
        check.holds("run " + which + " makes " + bytes + " bytes", bytes < MOST_BYTES);
    }

    private static void dearCall(TableOrders x, int which, int call) {
        switch (which) {
            case 0:
                x.order(5);
                break;
            case 1:
                x.total();
                break;
            case 2:
                x.share(0, 0, 0);
                break;
            case 3:
                x.rank(23, 11);
                break;
            case 4:
                x.drawn(call, 11);
                break;
            default:
                x.among(11, 1);
                break;
        }
    }

    /** Names come one by one, with the dearest calls after each. */
    private void growingRun() {
        long before = made();
        TableOrders x = new TableOrders();
        for (int call = 0; call < CALLS; call += 4) {
            x.name(2 + call % 3);
            x.factor(x.told(0) > 3 ? 15 : 0);
            x.order(5);
            x.total();
        }
        long bytes = made() - before;
        check.holds("the growing run makes " + bytes + " bytes", bytes < MOST_BYTES);
    }
}
