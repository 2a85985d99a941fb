import java.lang.reflect.Field;

/** The sentences of the document on the cells that a call looks at or writes, at their edges. */
public final class SteadyTest {
    private SteadyTest() {
    }

    public static void main(String[] args) throws ReflectiveOperationException {
        newHeapIsSteady();
        dearestMakings();
        dearestUses();
        fullHeapIsSteady();
        oneCellTooMany();
        Check.end();
    }

    /** Promise 17: "Whether no call so far looked at or wrote more cells than it may": so it is before any. */
    private static void newHeapIsSteady() {
        Check.due("p17 no call so far", new CountedHeap(1024, 1).steady(), true);
        Check.due("p17 no call so far", new CountedHeap(60000, 64).steady(), true);
    }

    /**
     * Eight registers with objects of 15 references, each of which leads to objects of 15 references, so that each
     * cell that is gone through moves 16 others. The first cycle has room for 15 cells more, behind it.
     */
    private static CountedHeap wideHeap(int k) {
        int cells = (8 + 7 * 15) * 16;
        int limit = cells + 15;
        CountedHeap x = new CountedHeap((limit * (k + 1) + k - 1) / k, k);
        for (int reg = 0; reg < 7; reg++) {
            x.make(reg, 15, 0);
            for (int field = 0; field < 15; field++) {
                x.make(7, 15, 0);
                x.put(reg, field, 7);
            }
        }
        x.array(7, 3375, true);
        Check.told("p17 a wide heap", x, 0, 1, 0, cells);
        return x;
    }

    /** Terms: "each call may look at or write at most 700 * k + 200 of them": a making that begins a cycle too. */
    private static void dearestMakings() {
        for (int k = 1; k <= 64; k++) {
            for (int kind = 0; kind < 3; kind++) {
                CountedHeap x = wideHeap(k);
                for (int i = 0; i < 8; i++) {
                    makeOneOf(x, kind, i);
                    Check.due("p17 steady(), k " + k + ", making " + i, x.steady(), true);
                }
                Check.due("p17 a cycle began", x.told(0) > 0, true);
                while (x.callsLeft() > 2) {
                    makeOneOf(x, kind, x.callsLeft());
                }
                Check.due("p17 steady(), k " + k, x.steady(), true);
            }
        }
    }

    private static void makeOneOf(CountedHeap x, int kind, int i) {
        if (kind == 0) {
            x.make(i % 8, 15, 0);
        } else if (kind == 1) {
            x.array(i % 8, 3375, true);
        } else {
            x.putItem(7, Fill.itemOfChild(i % 240), 0);
        }
    }

    /** Terms, the same sentence, for calls that make nothing, where what they lead to is not moved yet. */
    private static void dearestUses() {
        for (int k : new int[] {1, 2, 64}) {
            CountedHeap x = wideHeap(k);
            x.make(7, 15, 0);
            for (int reg = 0; reg < 7; reg++) {
                x.get(7, reg, 14);
                Check.due("p17 steady() behind get, k " + k, x.steady(), true);
                x.put(reg, 13, 7);
                Check.due("p17 steady() behind put, k " + k, x.steady(), true);
                x.put(7, reg, reg);
                Check.due("p17 steady() behind put, k " + k, x.steady(), true);
            }
        }
    }

    /** Terms, the same sentence, with all that a heap has room for. */
    private static void fullHeapIsSteady() {
        for (Scene.State state : Scene.State.values()) {
            CountedHeap x = new Scene(state).heap;
            for (int i = 0; i < 100; i++) {
                x.make(7, 15, 0);
                x.putItem(Scene.LARGE_REFERENCES, i * 2, 7);
            }
            Check.due("p17 steady() of a heap that was " + state, x.steady(), true);
        }
    }

    /**
     * Terms, the same sentence: "at most", each call for itself; promise 17: "no call so far". No call of this class
     * does more than it may, so what it may is made less to see it. How the class holds it is free: one that holds it
     * otherwise has nothing to be seen here.
     */
    private static void oneCellTooMany() throws ReflectiveOperationException {
        for (int allowed = 14; allowed <= 17; allowed++) {
            StepHeap x = new StepHeap(1024, 1);
            if (!allow(x, allowed)) {
                System.out.println("not looked at: what happens when a call does more than it may");
                return;
            }
            x.make(0, 7, 7);
            Check.due("p17 fifteen cells, allowed " + allowed, x.steady(), allowed >= 15);
            x.set(0, 0, 1);
            Check.due("p17 each call for itself", x.steady(), allowed >= 15);
            x.make(0, 7, 8);
            Check.due("p17 sixteen cells, allowed " + allowed, x.steady(), allowed >= 16);
            x.look(0, 0);
            Check.due("p17 it stays", x.steady(), allowed >= 16);
        }
        for (int k : new int[] {1, 2, 64}) {
            StepHeap x = new StepHeap(1024, k);
            Check.due("p17 what a call may, k " + k, allowance(x), 700 * k + 200);
        }
    }

    private static Object counter(StepHeap x) throws ReflectiveOperationException {
        Field cells = StepHeap.class.getDeclaredField("cells");
        cells.setAccessible(true);
        return cells.get(x);
    }

    private static Field allowedOf(Object counter) throws ReflectiveOperationException {
        Field field = counter.getClass().getDeclaredField("allowed");
        field.setAccessible(true);
        return field;
    }

    private static int allowance(StepHeap x) throws ReflectiveOperationException {
        Object counter = counter(x);
        return allowedOf(counter).getInt(counter);
    }

    private static boolean allow(StepHeap x, int allowed) throws ReflectiveOperationException {
        try {
            Object counter = counter(x);
            allowedOf(counter).setInt(counter, allowed);
            return true;
        } catch (NoSuchFieldException e) {
            return false;
        }
    }
}
