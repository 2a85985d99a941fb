/** Ways to bring a heap to where the document's rule of making has an edge. */
final class Fill {
    private Fill() {
    }

    /** Keeps so many cells reached, in a chain that begins in register 0; register 1 is nothing behind it. */
    static void keep(CountedHeap x, int cells) {
        if (cells == 0) {
            return;
        }
        int first = 1 + (cells - 1) % 16;
        x.make(0, 0, first - 1);
        for (int kept = first; kept < cells; kept += 16) {
            lengthen(x, 16);
        }
        x.drop(1);
    }

    /** One object more before the chain of register 0; it stays in register 1 too. */
    static void lengthen(CountedHeap x, int cells) {
        x.make(1, 1, cells - 2);
        x.put(1, 0, 0);
        x.copy(0, 1);
    }

    /** Makes so many cells that nothing reaches; register 7 is nothing behind it. */
    static void waste(CountedHeap x, int cells) {
        for (int left = cells; left > 0; left -= 16) {
            x.make(7, 0, Math.min(16, left) - 1);
        }
        x.drop(7);
    }

    /** Wastes cells until so many were made in the cycle. */
    static void wasteUntil(CountedHeap x, int made) {
        waste(x, made - x.told(3));
    }

    /** In a first cycle: as many cells as it has room for, so that the next making begins another. */
    static void firstCycle(CountedHeap x) {
        wasteUntil(x, x.told(4));
    }

    /** The item of an array of 3,375 whose writing makes the array's n-th child, when they are made in this order. */
    static int itemOfChild(int n) {
        int inner = n / 16;
        int last = Math.max(0, n % 16 - 1);
        return inner * 225 + last * 15;
    }
}
