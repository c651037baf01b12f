import com.sun.management.ThreadMXBean;
import java.lang.management.ManagementFactory;

/** The dearest runs of calls stay far below the room that all calls of one run share. */
public final class RoomTest {
    private static final long ROOM_BYTES = 7_300_000L * 4;
    private static final int CALLS = 512;

    public static void main(String[] args) {
        Checks checks = new Checks();
        long bytes = bytesOf(RoomTest::dearRun);
        checks.same("a dear run takes a tenth of the room at most: " + bytes, true, bytes < ROOM_BYTES / 10);
        bytes = bytesOf(RoomTest::manyObjects);
        checks.same("many objects take half of the room at most: " + bytes, true, bytes < ROOM_BYTES / 2);
        checks.end();
    }

    private static long bytesOf(Runnable run) {
        ThreadMXBean bean = (ThreadMXBean) ManagementFactory.getThreadMXBean();
        long thread = Thread.currentThread().getId();
        run.run();
        long before = bean.getThreadAllocatedBytes(thread);
        run.run();
        return bean.getThreadAllocatedBytes(thread) - before;
    }

    private static void dearRun() {
        ShadowArchive archive = new ShadowArchive();
        archive.size(16, 16);
        for (int s = 0; s < 8; s++) {
            archive.direction(s, s % 2 == 0 ? 16 : -16, 15 - s / 2 * 2);
            archive.project(s);
        }
        archive.put(0, 0, 1);
        archive.put(7, 0, 1);
        for (int call = 19; call < CALLS; call++) {
            switch (call % 8) {
                case 0 -> archive.keep();
                case 1 -> archive.add(true);
                case 2 -> archive.rebuild(255);
                case 3 -> archive.drop(3);
                case 4 -> archive.regenerate(3);
                case 5 -> archive.ghost(0, 3, 3);
                default -> archive.audit();
            }
        }
    }

    private static void manyObjects() {
        for (int call = 0; call < CALLS; call++) {
            ShadowArchive archive = new ShadowArchive();
            archive.pixel(0, 0, call);
        }
    }
}
