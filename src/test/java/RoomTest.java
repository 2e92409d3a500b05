import java.lang.management.ManagementFactory;

/** The dearest calls of a run keep to the room: 7.3 million fields and elements are far more than this. */
public final class RoomTest {
    private static final long MOST_BYTES = 2_000_000;
    private static final Checks C = new Checks("RoomTest");

    public static void main(String[] args) {
        if (!(ManagementFactory.getThreadMXBean() instanceof com.sun.management.ThreadMXBean)) {
            System.out.println("RoomTest: this machine does not tell what is made");
            return;
        }
        com.sun.management.ThreadMXBean bean = (com.sun.management.ThreadMXBean) ManagementFactory.getThreadMXBean();
        long id = Thread.currentThread().getId();
        run();
        long before = bean.getThreadAllocatedBytes(id);
        run();
        long after = bean.getThreadAllocatedBytes(id);
        C.dueTrue("bytes made: " + (after - before), after - before < MOST_BYTES);
        C.end();
    }

    /** 512 calls on a deep book in which much can be made and much is there. */
    private static void run() {
        ThingMaker x = Checks.with("b=2a+t", "c=b+s", "d=2b+c", "e=c+d");
        x.vessel(0, 19);
        for (int i = 0; i < 10; i++) {
            x.bring(0, 9999);
            x.bring(18, 9999);
        }
        for (int i = 0; i < 110; i++) {
            x.canHave(4);
            x.bestGift(4, 60);
            x.make(4, 1);
            x.keep(i % 2);
        }
    }
}
