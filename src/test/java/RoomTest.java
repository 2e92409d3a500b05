import java.lang.management.ManagementFactory;

/** The dearest calls of a run keep to the room, of 600,000 objects and 7.3 million fields and elements in all. */
public final class RoomTest {
    /** The bytes that the room takes at most: a field or an element up to 8, and the head of an object 16. */
    private static final long ROOM_IN_BYTES = 8L * 7_300_000L + 16L * 600_000L;
    private static final Checks C = new Checks("RoomTest");

    public static void main(String[] args) {
        if (!(ManagementFactory.getThreadMXBean() instanceof com.sun.management.ThreadMXBean)) {
            System.out.println("RoomTest: this machine does not tell what is made");
            return;
        }
        com.sun.management.ThreadMXBean bean = (com.sun.management.ThreadMXBean) ManagementFactory.getThreadMXBean();
        dear("all kinds", bean, RoomTest::allKinds);
        dear("canHave", bean, x -> many(x, y -> y.canHave(4)));
        dear("bestGift", bean, x -> many(x, y -> y.bestGift(4, 60)));
        dear("recipe", bean, x -> many(x, y -> y.recipe()));
        dear("wish", bean, x -> many(x, y -> y.wish(4, 60)));
        dear("keep", bean, x -> many(x, y -> y.keep(1)));
        dear("isNeeded", bean, x -> many(x, y -> y.isNeeded(0, 4)));
        C.end();
    }

    private static void dear(String name, com.sun.management.ThreadMXBean bean, Checks.Calls calls) {
        long id = Thread.currentThread().getId();
        run(calls);
        long before = bean.getThreadAllocatedBytes(id);
        run(calls);
        long after = bean.getThreadAllocatedBytes(id);
        C.dueTrue("bytes made by " + name + ": " + (after - before), after - before < ROOM_IN_BYTES);
    }

    /** At most 512 calls on a deep book in which much can be made and much is there. */
    private static void run(Checks.Calls calls) {
        ThingMaker x = Checks.with("b=2a+t", "c=b+s", "d=2b+c", "e=c+d");
        x.vessel(0, 19);
        for (int i = 0; i < 10; i++) {
            x.bring(0, 9999);
            x.bring(18, 9999);
        }
        calls.on(x);
    }

    private static void allKinds(ThingMaker x) {
        for (int i = 0; i < 110; i++) {
            x.canHave(4);
            x.bestGift(4, 60);
            x.make(4, 1);
            x.keep(i % 2);
        }
    }

    private static void many(ThingMaker x, Checks.Calls call) {
        for (int i = 0; i < 440; i++) {
            call.on(x);
        }
    }
}
