import java.lang.management.ManagementFactory;

/**
 * What a heap takes of the machine's room: all calls of one run share some 600,000 objects and 7.3 million fields and
 * elements, so one heap and its 512 calls may take a small part of it.
 */
public final class RoomTest {
    private static final int[] SIZES = {1024, 4096, 8192, 16384, 30000, 60000};
    private static final int[] PACES = {1, 2, 64};

    /** Less than 60,000 elements: a hundredth of the room, whatever H is. */
    private static final long MOST_BYTES = 60000 * 4;
    private static final long MOST_BYTES_OF_A_NEW_HEAP = 2000 * 4;

    private RoomTest() {
    }

    public static void main(String[] args) {
        if (!(ManagementFactory.getThreadMXBean() instanceof com.sun.management.ThreadMXBean)) {
            System.out.println("this Java does not tell what is made");
            return;
        }
        useOnce();
        for (int h : SIZES) {
            for (int k : PACES) {
                newHeapIsSmall(h, k);
                callsTakeLittle(h, k);
            }
        }
        Check.end();
    }

    private static long bytesMade() {
        com.sun.management.ThreadMXBean bean = (com.sun.management.ThreadMXBean) ManagementFactory.getThreadMXBean();
        return bean.getThreadAllocatedBytes(Thread.currentThread().getId());
    }

    /** The machine takes room of its own when a class is used for the first time; that is not the heap's. */
    private static void useOnce() {
        CountedHeap heap = new CountedHeap(1024, 1);
        heap.make(0, 0, 0);
        heap.array(1, 1, true);
        heap.put(1, 0, 0);
        heap.copy(0, 1);
        bytesMade();
    }

    /** A heap that is not used takes next to nothing. */
    private static void newHeapIsSmall(int h, int k) {
        long before = bytesMade();
        StepHeap heap = new StepHeap(h, k);
        long taken = bytesMade() - before;
        Check.due("a heap of " + h + ", " + k + " is small, told(3)", heap.told(3), 0);
        Check.due("a heap of " + h + ", " + k + " is small: " + taken + " bytes",
            taken < MOST_BYTES_OF_A_NEW_HEAP, true);
    }

    /** All calls make as much as they can and keep every second of it, so that cycles move as much as they can. */
    private static void callsTakeLittle(int h, int k) {
        CountedHeap heap = new CountedHeap(h, k);
        long before = bytesMade();
        while (heap.callsLeft() >= 4) {
            heap.make(1, 15, 0);
            heap.put(1, 0, 0);
            heap.copy(0, 1);
            heap.make(2, 0, 15);
        }
        long taken = bytesMade() - before;
        Check.due("512 calls of " + h + ", " + k + " take little: " + taken + " bytes", taken < MOST_BYTES, true);
        makingsTakeLittle(h, k);
    }

    /** Makings alone: the most cells that 512 calls can write. */
    private static void makingsTakeLittle(int h, int k) {
        CountedHeap heap = new CountedHeap(h, k);
        long before = bytesMade();
        for (int i = 0; i < CountedHeap.MOST_CALLS; i++) {
            heap.array(i % 8, 3375, true);
        }
        long taken = bytesMade() - before;
        Check.due("512 makings of " + h + ", " + k + " take little: " + taken + " bytes", taken < MOST_BYTES, true);
    }
}
