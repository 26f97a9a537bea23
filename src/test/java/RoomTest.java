import java.lang.management.ManagementFactory;

/** What one pair and its dearest calls make stays far below the room that one run has. */
public final class RoomTest {
    private static final long ROOM_FOR_NEW = 200_000;
    private static final long ROOM_FOR_FRAMES = 60_000;
    private static final long ROOM_FOR_TICKS = 2_000;

    private RoomTest() {
    }

    public static void main(String[] args) {
        play(false);
        play(true);
        Checks.end();
    }

    /** The first play is not measured: classes are loaded in it. */
    private static void play(boolean measured) {
        long start = bytes();
        BundlePair x = new BundlePair();
        long made = bytes();
        for (int i = 0; i < 8; i++) {
            x.port(0, i, 5, 100);
            x.port(1, i, 7, 100);
            x.manner(0, i, true, true);
            x.manner(1, i, true, true);
            x.plug(i, i, 7 - i, 8);
        }
        x.tick(100);
        long ticking = bytes();
        for (int i = 0; i < 100; i++) {
            x.tick(1000);
        }
        long ticked = bytes();
        for (int i = 0; i < 350; i++) {
            x.give(i % 2, 0, i % 256, i);
        }
        x.tick(10);
        long given = bytes();
        if (measured) {
            dueBelow("a new pair", made - start, ROOM_FOR_NEW);
            dueBelow("100 times tick(1000)", ticked - ticking, ROOM_FOR_TICKS);
            dueBelow("350 times give", given - ticked, ROOM_FOR_FRAMES);
            Checks.due("FRAMES that came", x.count(6) + x.count(7), 350);
        }
    }

    private static void dueBelow(String what, long bytes, long room) {
        Checks.due(what + " makes " + bytes + " bytes, room is " + room, bytes < room ? 1 : 0, 1);
    }

    private static long bytes() {
        var threads = (com.sun.management.ThreadMXBean) ManagementFactory.getThreadMXBean();
        return threads.getThreadAllocatedBytes(Thread.currentThread().getId());
    }
}
