import java.lang.management.ManagementFactory;

/** A large run of 512 calls makes little: the room of a run has 7.3 million fields and elements. */
public final class RoomTest {
    private static final int SPLIT = 1;
    private static final int END = 4;
    private static final long MOST_BYTES = 1_000_000;

    private static final Checks checks = new Checks();

    public static void main(String[] args) {
        largeRun();
        com.sun.management.ThreadMXBean threads =
                (com.sun.management.ThreadMXBean) ManagementFactory.getThreadMXBean();
        long before = threads.getCurrentThreadAllocatedBytes();
        int ended = largeRun();
        long bytes = threads.getCurrentThreadAllocatedBytes() - before;
        System.out.println(bytes + " bytes made, " + ended + " events ended");
        checks.part("room");
        checks.holds("few bytes", bytes < MOST_BYTES);
        checks.holds("many events ended", ended > 1000);
        checks.end();
    }

    /** A SPLIT that feeds itself keeps two of six ENDs busy to the last tick. */
    private static int largeRun() {
        StageDesk desk = new StageDesk();
        for (int i = 0; i < 8; i++) {
            desk.stage(i < 2 ? SPLIT : END, 32, 4, 0);
        }
        desk.targets(0, 0, 1);
        desk.targets(1, 2, 3);
        int calls = 10;
        for (; calls < 110; calls++) {
            desk.put(calls % 8, calls);
        }
        for (int i = 0; i < 400; i++) {
            desk.tick(1);
            calls++;
        }
        for (; calls < 511; calls++) {
            desk.told(2, 9);
        }
        return desk.ended();
    }
}
