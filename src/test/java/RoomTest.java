import java.lang.management.ManagementFactory;

/** What the dearest calls of a whole run make: all of it stays in one room. */
public final class RoomTest {
    private static final long MOST_BYTES = 400_000;
    private static int wrong = 0;

    public static void main(String[] args) {
        com.sun.management.ThreadMXBean threads = (com.sun.management.ThreadMXBean) ManagementFactory.getThreadMXBean();
        long id = Thread.currentThread().getId();
        callAll();
        long before = threads.getThreadAllocatedBytes(id);
        callAll();
        long made = threads.getThreadAllocatedBytes(id) - before;
        System.out.println("512 calls made " + made + " bytes");
        if (made > MOST_BYTES) {
            System.out.println("that is more than " + MOST_BYTES);
            wrong++;
        }
        if (wrong != 0) {
            System.exit(1);
        }
    }

    private static void callAll() {
        BlowSeeker x = new BlowSeeker();
        x.end(6);
        x.rule(-1, 1, 0, 0, -1, -1, 0);
        for (int i = 0; i < 9; i++) {
            x.rule(-1, 2, i % 3, (i + 1) % 3, -1, -1, i % 4);
        }
        for (int i = 0; i < 4; i++) {
            x.first(i, i, 1);
        }
        for (int i = 5; i < 10; i++) {
            x.spare(i, i);
        }
        x.bounds(2, 2, 6);
        int calls = 22;
        for (; calls + 4 < 512; calls += 4) {
            x.promise(calls % 4, 0, 3, 2);
            x.seek();
            x.mend();
            if (x.rule(-1, 0, 3, 3, -1, 3, 0) != BlowSeeker.STATE) {
                wrong++;
            }
        }
    }
}
