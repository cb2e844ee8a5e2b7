import java.lang.management.ManagementFactory;

/** Only the constructor makes anything: 512 of the dearest calls must not fill the one room. */
public final class RoomTest {
    private static long allocated() {
        com.sun.management.ThreadMXBean threads =
                (com.sun.management.ThreadMXBean) ManagementFactory.getThreadMXBean();
        return threads.getThreadAllocatedBytes(Thread.currentThread().getId());
    }

    private static MasterHeap crowded() {
        MasterHeap x = new MasterHeap();
        x.start(100, 120);
        for (int h = 0; h < 8; h++) {
            x.make(3 + h, h);
            x.least(h, 2);
            x.mark(h, true);
        }
        x.fix(3);
        x.high(3);
        return x;
    }

    /** Some of every call, the dear ones with what they can't find soon. */
    private static int calls(MasterHeap x) {
        int sum = 0;
        for (int k = 0; k < 20; k++) {
            sum += x.would(30 + 5 * k, 0) + x.fewest(30 + 5 * k, 1) + x.cheapest(20 + k, 1);
            sum += x.greatest(k % 3) + (x.three(10, 10, k) ? 1 : 0) + x.order(k) + x.torn(k, 640);
            sum += x.make(20 + k, 1) + x.resize(1, 1 + k) + x.fix(4) + x.reserve(10) + x.compact();
            sum += x.undo() + x.after(k) + x.cell(k) + x.block(k, 1) + x.free(k % 4) + x.count(k % 8);
            sum += x.put(0, 0, k) + x.lock(k % 8) + x.unlock(k % 8) + x.high(2) + x.remake(k % 8);
        }
        return sum;
    }

    public static void main(String[] args) {
        MasterHeap x = crowded();
        MasterHeap y = crowded();
        long before = allocated();
        int sum = calls(x);
        long made = allocated() - before;
        if (sum != calls(y)) {
            System.out.println("RoomTest: the same calls gave other answers");
            System.exit(1);
        }
        // the machine itself may take some room while it loads the classes
        if (made > 20000) {
            System.out.println("RoomTest: the calls made " + made + " bytes");
            System.exit(1);
        }
        before = allocated();
        new MasterHeap();
        long one = allocated() - before;
        if (one > 120000) {
            System.out.println("RoomTest: a new object makes " + one + " bytes");
            System.exit(1);
        }
        System.out.println("RoomTest: calls make " + made + " bytes, a new object " + one);
    }
}
