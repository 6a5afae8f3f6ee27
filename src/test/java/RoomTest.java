import java.lang.management.ManagementFactory;

/** The room that 512 calls may fill: 600,000 objects and 7.3 million fields, and far less is used. */
public final class RoomTest {
    /** With those that build the cave, some 500 calls, as many as an object is good for. */
    private static final int CALLS = 400;
    private static final com.sun.management.ThreadMXBean THREADS =
            (com.sun.management.ThreadMXBean) ManagementFactory.getThreadMXBean();

    private static long bytes() {
        return THREADS.getThreadAllocatedBytes(Thread.currentThread().getId());
    }

    private static CaveEchoes loudest() {
        CaveEchoes cave = new CaveEchoes();
        for (int number = 0; number < 48; number++) {
            cave.add(number % 3 == 0 ? 99 : -99 + number);
        }
        cave.send();
        for (int number = 0; number < 48; number++) {
            cave.tamper(number, -198);
        }
        return cave;
    }

    public static void main(String[] args) {
        CaveEchoes cave = loudest();
        long sum = cave.digest() + bytes();
        long before = bytes();
        for (int call = 0; call < CALLS / 4; call++) {
            sum += cave.digest();
            cave.setSpeed(call % 4);
            sum += cave.send();
            cave.undo();
        }
        long used = bytes() - before;
        Checks.due("400 dear calls make nothing (" + used + " bytes, " + (sum & 1) + ")", used < 10_000, true);
        before = bytes();
        CaveEchoes made = new CaveEchoes();
        used = bytes() - before;
        Checks.due("a new object is small (" + used + " bytes)", used < 60_000 && made.samples() == 0, true);
        Checks.end("RoomTest");
    }
}
