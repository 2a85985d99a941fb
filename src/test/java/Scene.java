/** A heap with a thing of each kind in its registers, to see that a call changed nothing of it. */
final class Scene {
    /** In the first cycle; in one that is not done, so that things are being moved; with no room. */
    enum State {
        FIRST, MOVING, FULL
    }

    /** Two references, the object of LEAF and nothing, and the ints 11 and -22. */
    static final int OBJECT = 0;
    /** No reference, and the int 33. */
    static final int LEAF = 1;
    /** Three items: the object of OBJECT, nothing, the array itself. */
    static final int REFERENCES = 2;
    /** Three items: 5, 0, the least int. */
    static final int INTS = 3;
    /** 226 items that are nothing, and no child. */
    static final int LARGE_REFERENCES = 4;
    /** 226 items that are 0, and no child. */
    static final int LARGE_INTS = 5;
    /** 15 references, which are nothing, but for the first one when the state is not FIRST. */
    static final int WIDE = 6;
    static final int NOTHING = 7;

    private static final int CELLS = 5 + 2 + 5 * 16;

    private static final int[][] SIZES = {{2, 2, -1, 5}, {0, 1, -1, 2}, {-1, -1, 3, 16}, {-1, -1, 3, 16},
        {-1, -1, 226, 16}, {-1, -1, 226, 16}, {15, 0, -1, 16}, {-1, -1, -1, -1}};

    final CountedHeap heap;
    private final State state;

    Scene(State state) {
        this.state = state;
        heap = new CountedHeap(1024, state == State.FULL ? 64 : 1);
        fillRegisters();
        if (state == State.MOVING) {
            addBallast(26);
        } else if (state == State.FULL) {
            addBallast(58);
        }
    }

    private void fillRegisters() {
        heap.make(OBJECT, 2, 2);
        heap.set(OBJECT, 0, 11);
        heap.set(OBJECT, 1, -22);
        heap.make(LEAF, 0, 1);
        heap.set(LEAF, 0, 33);
        heap.put(OBJECT, 0, LEAF);
        heap.array(REFERENCES, 3, true);
        heap.putItem(REFERENCES, 0, OBJECT);
        heap.putItem(REFERENCES, 2, REFERENCES);
        heap.array(INTS, 3, false);
        heap.setItem(INTS, 0, 5);
        heap.setItem(INTS, 2, Integer.MIN_VALUE);
        heap.array(LARGE_REFERENCES, 226, true);
        heap.array(LARGE_INTS, 226, false);
        heap.make(WIDE, 15, 0);
    }

    /** An array with so many children, which leads to nothing else. */
    private void addBallast(int children) {
        heap.array(NOTHING, 3375, false);
        heap.put(WIDE, 0, NOTHING);
        for (int n = 0; n < children; n++) {
            heap.setItem(NOTHING, Fill.itemOfChild(n), 1);
        }
        heap.drop(NOTHING);
    }

    /** Asks all that can be asked. It changes register 7 in the end, so it is for once. */
    void isAsItWas(String behind) {
        String what = "behind " + behind + " (" + state + ")";
        cyclesAreAsTheyWere(what);
        registersAreAsTheyWere(what);
        intsAreAsTheyWere(what);
        referencesAreAsTheyWere(what);
    }

    private void cyclesAreAsTheyWere(String what) {
        if (state == State.FIRST) {
            Check.told(what, heap, 0, 1, 0, CELLS);
        } else if (state == State.MOVING) {
            Check.told(what, heap, 1, 0, -1, 16);
        } else {
            Check.told(what, heap, 2, 1, 1015, 16);
        }
        Check.due(what + ", told(4)", heap.told(4), state == State.FULL ? 1008 : 512);
        Check.due(what + ", steady()", heap.steady(), true);
    }

    private void registersAreAsTheyWere(String what) {
        for (int reg = 0; reg < 8; reg++) {
            for (int kind = 0; kind < 4; kind++) {
                Check.due(what + ", size(" + reg + ", " + kind + ")", heap.size(reg, kind), SIZES[reg][kind]);
            }
            for (int other = 0; other < reg; other++) {
                Check.due(what + ", same(" + reg + ", " + other + ")", heap.same(reg, other), false);
            }
        }
    }

    private void intsAreAsTheyWere(String what) {
        Check.due(what + ", look(0, 0)", heap.look(OBJECT, 0), 11);
        Check.due(what + ", look(0, 1)", heap.look(OBJECT, 1), -22);
        Check.due(what + ", look(1, 0)", heap.look(LEAF, 0), 33);
        Check.due(what + ", lookItem(3, 0)", heap.lookItem(INTS, 0), 5);
        Check.due(what + ", lookItem(3, 1)", heap.lookItem(INTS, 1), 0);
        Check.due(what + ", lookItem(3, 2)", heap.lookItem(INTS, 2), Integer.MIN_VALUE);
        for (int i = 0; i < 226; i += 75) {
            Check.due(what + ", lookItem(5, " + i + ")", heap.lookItem(LARGE_INTS, i), 0);
        }
    }

    private void referencesAreAsTheyWere(String what) {
        referenceIs(what, OBJECT, 0, LEAF);
        referenceIs(what, OBJECT, 1, -1);
        for (int field = 1; field < 15; field++) {
            referenceIs(what, WIDE, field, -1);
        }
        itemIs(what, REFERENCES, 0, OBJECT);
        itemIs(what, REFERENCES, 1, -1);
        itemIs(what, REFERENCES, 2, REFERENCES);
        for (int i = 0; i < 226; i += 75) {
            itemIs(what, LARGE_REFERENCES, i, -1);
        }
    }

    private void referenceIs(String what, int of, int field, int as) {
        Check.due(what + ", get(7, " + of + ", " + field + ")", heap.get(NOTHING, of, field), true);
        isAs(what + ", reference " + field + " of " + of, as);
    }

    private void itemIs(String what, int of, int i, int as) {
        Check.due(what + ", getItem(7, " + of + ", " + i + ")", heap.getItem(NOTHING, of, i), true);
        isAs(what + ", item " + i + " of " + of, as);
    }

    private void isAs(String what, int as) {
        if (as < 0) {
            Check.isNothing(what, heap, NOTHING);
        } else {
            Check.due(what + " is register " + as, heap.same(NOTHING, as), true);
        }
    }
}
