import java.lang.management.ManagementFactory;

/** All calls of a run live in one room, so a call that throws nothing makes nothing. */
public final class RoomTest {
    public static void main(String[] args) {
        com.sun.management.ThreadMXBean threads =
                (com.sun.management.ThreadMXBean) ManagementFactory.getThreadMXBean();
        // The first run loads what Java makes once; each has an object of its own for its 512 calls.
        wholeRun(new WideningArray());
        WideningArray array = new WideningArray();
        long before = threads.getCurrentThreadAllocatedBytes();
        wholeRun(array);
        long bytes = threads.getCurrentThreadAllocatedBytes() - before;
        System.out.println("RoomTest: " + bytes + " bytes made by 512 calls");
        if (bytes > 4096) {
            System.out.println("RoomTest: due is next to nothing");
            System.exit(1);
        }
    }

    private static void wholeRun(WideningArray array) {
        for (int k = 0; k < 12; k++) {
            array.format(5);
            array.write(k, 1, k);
            array.lose(k % 5);
            array.replace();
            array.rebuild();
            array.widen();
            for (int row = 0; row < 32; row++) {
                array.step();
            }
            array.read(k, 1);
            array.good(k);
            array.marks(0, 0);
            array.cell(0, 0, 0);
        }
    }
}
