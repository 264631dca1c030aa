import java.lang.management.ManagementFactory;

/** What the calls make is little: all calls of a run live in one room. */
public final class RoomTest {
    /** With those that tell all there may be, these are no more than the 512 that an object answers. */
    private static final int CALLS = 480;
    private static final long MOST_BYTES_OF_ONE = 16_000;
    private static final long MOST_BYTES_OF_CALLS = CALLS * 200L;

    public static void main(String[] args) {
        Check check = new Check("RoomTest");
        full().digest();
        long before = bytes();
        Doublecoat x = full();
        long made = bytes() - before;
        check.due("bytes of an object: " + made, true, () -> made < MOST_BYTES_OF_ONE);
        long calls = bytes();
        for (int k = 0; k < CALLS; k += 2) {
            x.pause(k % 6, k % 10);
            x.digest();
        }
        long used = bytes() - calls;
        check.due("bytes of " + CALLS + " calls: " + used, true, () -> used < MOST_BYTES_OF_CALLS);
        check.end();
    }

    private static Doublecoat full() {
        Doublecoat x = new Doublecoat();
        for (int k = 0; k < 7; k++) x.part(k % 4, k % 3, k);
        for (int k = 0; k < 5; k++) x.player(15 - k, 4 + k % 3, k + 1);
        for (int k = 0; k < 6; k++) x.scene(3 << k, k);
        for (int k = 0; k < 6; k++) x.coat(k % 4, 4 + k % 3, 10 + k);
        for (int k = 0; k < 5; k++) x.town(k * 9, k * 7 % 5, 100 * k);
        return x;
    }

    private static long bytes() {
        return ((com.sun.management.ThreadMXBean) ManagementFactory.getThreadMXBean())
                .getThreadAllocatedBytes(Thread.currentThread().getId());
    }
}
