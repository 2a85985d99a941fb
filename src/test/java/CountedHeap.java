/** A StepHeap that is asked at most 512 times: nothing is promised of a later call, so no test may rest on one. */
final class CountedHeap {
    static final int MOST_CALLS = 512;

    private final StepHeap heap;
    private int calls = 0;

    CountedHeap(int h, int k) {
        heap = new StepHeap(h, k);
    }

    int callsLeft() {
        return MOST_CALLS - calls;
    }

    private StepHeap next() {
        calls++;
        if (calls > MOST_CALLS) {
            throw new IllegalStateException("a test asks more often than the document promises answers");
        }
        return heap;
    }

    int make(int reg, int refs, int ints) {
        return next().make(reg, refs, ints);
    }

    int array(int reg, int length, boolean refs) {
        return next().array(reg, length, refs);
    }

    boolean get(int to, int of, int field) {
        return next().get(to, of, field);
    }

    boolean put(int of, int field, int from) {
        return next().put(of, field, from);
    }

    long look(int of, int field) {
        return next().look(of, field);
    }

    boolean set(int of, int field, int v) {
        return next().set(of, field, v);
    }

    boolean getItem(int to, int of, int i) {
        return next().getItem(to, of, i);
    }

    int putItem(int of, int i, int from) {
        return next().putItem(of, i, from);
    }

    long lookItem(int of, int i) {
        return next().lookItem(of, i);
    }

    int setItem(int of, int i, int v) {
        return next().setItem(of, i, v);
    }

    boolean copy(int to, int from) {
        return next().copy(to, from);
    }

    boolean drop(int reg) {
        return next().drop(reg);
    }

    boolean same(int a, int b) {
        return next().same(a, b);
    }

    int size(int reg, int what) {
        return next().size(reg, what);
    }

    int told(int what) {
        return next().told(what);
    }

    boolean steady() {
        return next().steady();
    }
}
