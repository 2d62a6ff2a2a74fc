import java.lang.management.ManagementFactory;
import java.util.Random;

/** All calls of one run live in one room: what calls make is kept far below it. */
public final class RoomTest {
    private static final int CALLS = 512;
    private static final int ROOM = 64 * 1024;

    public static void main(String[] args) {
        Due due = new Due();
        com.sun.management.ThreadMXBean threads =
            (com.sun.management.ThreadMXBean) ManagementFactory.getThreadMXBean();
        long id = Thread.currentThread().getId();
        measure(threads, id, 0);
        for (int name = 0; name < AxisModel.NAMES.length; name++) {
            long bytes = measure(threads, id, name);
            due.holds(CALLS + " calls of " + AxisModel.NAMES[name] + " make " + bytes + " bytes",
                bytes < ROOM);
        }
        due.end();
    }

    private static long measure(com.sun.management.ThreadMXBean threads, long id, int name) {
        StepAxis x = Due.withText("s5,-9;h;g90;r-50;z;s2,7;g-20;");
        x.load(40, 50, 99);
        Random random = new Random(name);
        int[] arguments = new int[CALLS];
        for (int i = 0; i < CALLS; i++) {
            arguments[i] = random.nextInt(300) - 100;
        }
        long before = threads.getThreadAllocatedBytes(id);
        for (int i = 0; i < CALLS; i++) {
            Face.call(x, name, arguments[i], arguments[i], 50);
        }
        return threads.getThreadAllocatedBytes(id) - before;
    }
}
