import java.lang.management.ManagementFactory;

/** All calls of one run live in one room: the dearest ones, 512 of them, make next to nothing. */
public final class RoomTest {
    private static final long ROOM = 2000000;

    public static void main(String[] args) {
        Check.sentence("An object is used for at most 512 calls");
        com.sun.management.ThreadMXBean threads = (com.sun.management.ThreadMXBean) ManagementFactory.getThreadMXBean();
        if (threads.isThreadAllocatedMemorySupported() && threads.isThreadAllocatedMemoryEnabled()) {
            long thread = Thread.currentThread().getId();
            dearestRun();
            long before = threads.getThreadAllocatedBytes(thread);
            dearestRun();
            long made = threads.getThreadAllocatedBytes(thread) - before;
            Check.same(made + " bytes are made by 512 calls", made < ROOM, true);
        }
        Check.done("RoomTest");
    }

    /** 600 BREAKS that take all three tolerances, SET and asked for again and again. */
    private static long dearestRun() {
        LineSetter x = new LineSetter();
        long sum = x.feed(0x656e6473, 0x20313120, 0x31612020, 0x20202020, 0x20202020) + x.hyphens();
        for (int i = 0; i < 30; i++) {
            sum += x.feed(0x61616161, 0x61616161, 0x61616161, 0x61616161, 0x61616161);
        }
        sum += x.run(100000);
        for (int i = 33; i < 512; i += 5) {
            sum += x.set(1000, 0, i % 4, 1, 1) + x.told(0) + x.text(0) + x.judge() + x.spot(0, 0);
        }
        return sum;
    }
}
