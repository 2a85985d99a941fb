/**
 * The sentences of the document that name what is refused, or that there is none. Each wrong call is asked of a new
 * heap, in the first cycle, while things are moved, and with no room, and nothing may have changed behind it.
 */
public final class RefusedCallsTest {
    private static final int LEAST = Integer.MIN_VALUE;
    private static final int MOST = Integer.MAX_VALUE;
    private static final int[] NO_REGISTERS = {LEAST, -1, 8, MOST};
    private static final int[] ARRAYS = {Scene.REFERENCES, Scene.INTS, Scene.LARGE_REFERENCES, Scene.LARGE_INTS};
    private static final int[] NO_FIELDS_OF_TWO = {LEAST, -1, 2, 3, 4, 14, 15, MOST};
    /** 3 to 14 have their cells in the node of an array of three, but are no items of it. */
    private static final int[] NO_ITEMS_OF_3 = {LEAST, -1, 3, 4, 14, 15, 225, MOST};
    /** 226 to 239 have their cells in the last node of an array of 226, but are no items of it. */
    private static final int[] NO_ITEMS_OF_226 = {LEAST, -225, -1, 226, 239, 240, 3374, 3375, MOST};
    private static final long NO_INT = Long.MIN_VALUE;

    private interface Call {
        long on(CountedHeap x);
    }

    private RefusedCallsTest() {
    }

    public static void main(String[] args) {
        makeOfNoRegister();
        makeOfANumberBelowZero();
        makeOfMoreThan16Cells();
        makeOfNumbersWhoseSumWraps();
        arrayOfNoRegister();
        arrayOfNoLength();
        getOfNoRegister();
        getOfNothingOrAnArray();
        getOfNoReference();
        putOfNoRegister();
        putOfNothingOrAnArray();
        putOfNoReference();
        lookWhereNoneIs();
        setWhereNoneIs();
        getItemOfNoRegister();
        getItemOfNoSuchArray();
        getItemOfNoItem();
        putItemOfNoRegister();
        putItemOfNoSuchArray();
        putItemOfNoItem();
        lookItemWhereNoneIs();
        setItemOfNoSuchArray();
        setItemOfNoItem();
        copyOfNoRegister();
        dropOfNoRegister();
        sameOfNoRegister();
        sizeOfNothing();
        sizeOfNoRegister();
        sizeOfAnotherWhat();
        toldOfAnotherWhat();
        Check.end();
    }

    private static long asNumber(boolean answer) {
        return answer ? 1 : 0;
    }

    private static void changesNothing(String name, long want, Call call) {
        for (Scene.State state : Scene.State.values()) {
            Scene scene = new Scene(state);
            Check.due(name + " (" + state + ")", call.on(scene.heap), want);
            scene.isAsItWas(name);
        }
    }

    private static void makeIsRefused(String promise, int reg, int refs, int ints) {
        String name = promise + " make(" + reg + ", " + refs + ", " + ints + ")";
        changesNothing(name, StepHeap.NONE, x -> x.make(reg, refs, ints));
    }

    /** Promise 2: "NONE, refused, when there is no such register". */
    private static void makeOfNoRegister() {
        for (int reg : NO_REGISTERS) {
            makeIsRefused("p2 no register,", reg, 1, 1);
            makeIsRefused("p2 no register,", reg, 0, 0);
        }
    }

    /** Promise 2: "NONE, refused, when [..] a number is below 0": also when the cells would be 1 to 16 in all. */
    private static void makeOfANumberBelowZero() {
        int[][] numbers = {{-1, 0}, {0, -1}, {-1, -1}, {-1, 1}, {1, -1}, {-1, 15}, {15, -1}, {-1, 16}, {16, -1},
            {LEAST, 0}, {0, LEAST}, {LEAST, 15}, {15, LEAST}};
        for (int[] row : numbers) {
            makeIsRefused("p2 below 0,", 0, row[0], row[1]);
        }
    }

    /** Promise 2: "NONE, refused, when [..] it would have more than 16 cells". */
    private static void makeOfMoreThan16Cells() {
        int[][] numbers = {{16, 0}, {0, 16}, {15, 1}, {1, 15}, {8, 8}, {15, 15}, {MOST, 0}, {0, MOST}};
        for (int[] row : numbers) {
            makeIsRefused("p2 more than 16 cells,", 7, row[0], row[1]);
        }
    }

    /** Promise 2, the same sentence, where 1 + refs + ints would wrap around to 16 or less. */
    private static void makeOfNumbersWhoseSumWraps() {
        int[][] numbers = {{MOST, MOST}, {MOST, 1}, {1, MOST}, {MOST, 2}, {1 << 30, 1 << 30}, {LEAST, LEAST},
            {LEAST, MOST}, {MOST, LEAST}};
        for (int[] row : numbers) {
            makeIsRefused("p2 wraps,", 7, row[0], row[1]);
        }
    }

    private static void arrayIsRefused(String promise, int reg, int length) {
        String name = promise + " array(" + reg + ", " + length + ", ..)";
        changesNothing(name, StepHeap.NONE, x -> x.array(reg, length, true));
        changesNothing(name, StepHeap.NONE, x -> x.array(reg, length, false));
    }

    /** Promise 3: "NONE, refused, when there is no such register [..]". */
    private static void arrayOfNoRegister() {
        for (int reg : NO_REGISTERS) {
            arrayIsRefused("p3 no register,", reg, 1);
        }
    }

    /** Promise 3: "NONE, refused, when there is no such [..] length"; Terms: "AN ARRAY of a length (0 .. 3,375)". */
    private static void arrayOfNoLength() {
        for (int length : new int[] {LEAST, -1, 3376, MOST}) {
            arrayIsRefused("p3 no length,", 0, length);
            arrayIsRefused("p3 no length,", 7, length);
        }
    }

    private static void getIsRefused(String promise, int to, int of, int field) {
        String name = promise + " get(" + to + ", " + of + ", " + field + ")";
        changesNothing(name, 0, x -> asNumber(x.get(to, of, field)));
    }

    /** Promise 4: "False, refused, when there is no such register". */
    private static void getOfNoRegister() {
        for (int reg : NO_REGISTERS) {
            getIsRefused("p4 no register,", reg, Scene.OBJECT, 0);
            getIsRefused("p4 no register,", Scene.LEAF, reg, 0);
            getIsRefused("p4 no register,", reg, reg, 0);
        }
    }

    /** Promise 4: "False, refused, when [..] of is nothing or an array"; Terms: "an array [has] no fields". */
    private static void getOfNothingOrAnArray() {
        getIsRefused("p4 nothing,", Scene.LEAF, Scene.NOTHING, 0);
        getIsRefused("p4 nothing,", Scene.NOTHING, Scene.NOTHING, 0);
        for (int array : ARRAYS) {
            getIsRefused("p4 an array,", Scene.LEAF, array, 0);
            getIsRefused("p4 an array,", array, array, 2);
        }
    }

    /** Promise 4: "False, refused, when [..] or has no such reference". Ints are no references, and not behind them. */
    private static void getOfNoReference() {
        for (int field : NO_FIELDS_OF_TWO) {
            getIsRefused("p4 no reference,", Scene.LEAF, Scene.OBJECT, field);
        }
        getIsRefused("p4 no reference,", Scene.OBJECT, Scene.LEAF, 0);
        getIsRefused("p4 no reference,", Scene.OBJECT, Scene.WIDE, 15);
    }

    private static void putIsRefused(String promise, int of, int field, int from) {
        String name = promise + " put(" + of + ", " + field + ", " + from + ")";
        changesNothing(name, 0, x -> asNumber(x.put(of, field, from)));
    }

    /** Promise 5: "False, refused, when there is no such register". */
    private static void putOfNoRegister() {
        for (int reg : NO_REGISTERS) {
            putIsRefused("p5 no register,", reg, 0, Scene.OBJECT);
            putIsRefused("p5 no register,", Scene.OBJECT, 0, reg);
            putIsRefused("p5 no register,", reg, 0, reg);
        }
    }

    /** Promise 5: "False, refused, when [..] of is nothing or an array"; Terms: "an array [has] no fields". */
    private static void putOfNothingOrAnArray() {
        putIsRefused("p5 nothing,", Scene.NOTHING, 0, Scene.OBJECT);
        putIsRefused("p5 nothing,", Scene.NOTHING, 0, Scene.NOTHING);
        for (int array : ARRAYS) {
            putIsRefused("p5 an array,", array, 0, Scene.LEAF);
            putIsRefused("p5 an array,", array, 2, Scene.NOTHING);
        }
    }

    /** Promise 5: "False, refused, when [..] or has no such reference". Ints are no references, and not behind them. */
    private static void putOfNoReference() {
        for (int field : NO_FIELDS_OF_TWO) {
            putIsRefused("p5 no reference,", Scene.OBJECT, field, Scene.LEAF);
        }
        putIsRefused("p5 no reference,", Scene.LEAF, 0, Scene.LEAF);
        putIsRefused("p5 no reference,", Scene.WIDE, 15, Scene.LEAF);
    }

    private static void lookIsNone(String promise, int of, int field) {
        String name = promise + " look(" + of + ", " + field + ")";
        changesNothing(name, NO_INT, x -> x.look(of, field));
    }

    /** Promise 6: "the least long when there is none": no register, nothing, an array, no such int. */
    private static void lookWhereNoneIs() {
        for (int reg : NO_REGISTERS) {
            lookIsNone("p6 no register,", reg, 0);
        }
        lookIsNone("p6 nothing,", Scene.NOTHING, 0);
        for (int array : ARRAYS) {
            lookIsNone("p6 an array,", array, 0);
        }
        for (int field : NO_FIELDS_OF_TWO) {
            lookIsNone("p6 no int,", Scene.OBJECT, field);
        }
        lookIsNone("p6 no int,", Scene.LEAF, 1);
        lookIsNone("p6 no int,", Scene.WIDE, 0);
    }

    private static void setIsRefused(String promise, int of, int field) {
        String name = promise + " set(" + of + ", " + field + ", ..)";
        changesNothing(name, 0, x -> asNumber(x.set(of, field, 77)));
        changesNothing(name, 0, x -> asNumber(x.set(of, field, 0)));
    }

    /** Promise 7: "False, refused, when there is none": no register, nothing, an array, no such int. */
    private static void setWhereNoneIs() {
        for (int reg : NO_REGISTERS) {
            setIsRefused("p7 no register,", reg, 0);
        }
        setIsRefused("p7 nothing,", Scene.NOTHING, 0);
        for (int array : ARRAYS) {
            setIsRefused("p7 an array,", array, 0);
        }
        for (int field : NO_FIELDS_OF_TWO) {
            setIsRefused("p7 no int,", Scene.OBJECT, field);
        }
        setIsRefused("p7 no int,", Scene.LEAF, 1);
        setIsRefused("p7 no int,", Scene.WIDE, 0);
    }

    private static void getItemIsRefused(String promise, int to, int of, int i) {
        String name = promise + " getItem(" + to + ", " + of + ", " + i + ")";
        changesNothing(name, 0, x -> asNumber(x.getItem(to, of, i)));
    }

    /** Promise 8: "False, refused, when there is no such register". */
    private static void getItemOfNoRegister() {
        for (int reg : NO_REGISTERS) {
            getItemIsRefused("p8 no register,", reg, Scene.REFERENCES, 0);
            getItemIsRefused("p8 no register,", reg, Scene.LARGE_REFERENCES, 0);
            getItemIsRefused("p8 no register,", Scene.LEAF, reg, 0);
            getItemIsRefused("p8 no register,", reg, reg, 0);
        }
    }

    /** Promise 8: "False, refused, when [..] of is no such array": nothing, an object, an array of ints. */
    private static void getItemOfNoSuchArray() {
        getItemIsRefused("p8 nothing,", Scene.LEAF, Scene.NOTHING, 0);
        getItemIsRefused("p8 an object,", Scene.LEAF, Scene.OBJECT, 0);
        getItemIsRefused("p8 an object,", Scene.LEAF, Scene.WIDE, 0);
        getItemIsRefused("p8 of ints,", Scene.LEAF, Scene.INTS, 0);
        getItemIsRefused("p8 of ints,", Scene.LEAF, Scene.LARGE_INTS, 0);
    }

    /** Promise 8: "False, refused, when [..] or has no such item". */
    private static void getItemOfNoItem() {
        for (int i : NO_ITEMS_OF_3) {
            getItemIsRefused("p8 no item,", Scene.LEAF, Scene.REFERENCES, i);
        }
        for (int i : NO_ITEMS_OF_226) {
            getItemIsRefused("p8 no item,", Scene.LEAF, Scene.LARGE_REFERENCES, i);
        }
    }

    private static void putItemIsRefused(String promise, int of, int i, int from) {
        String name = promise + " putItem(" + of + ", " + i + ", " + from + ")";
        changesNothing(name, StepHeap.NONE, x -> x.putItem(of, i, from));
    }

    /** Promise 9: "NONE, refused, when there is no such register": no child is made either. */
    private static void putItemOfNoRegister() {
        for (int reg : NO_REGISTERS) {
            putItemIsRefused("p9 no register,", reg, 0, Scene.LEAF);
            putItemIsRefused("p9 no register,", Scene.REFERENCES, 0, reg);
            putItemIsRefused("p9 no register,", Scene.LARGE_REFERENCES, 0, reg);
            putItemIsRefused("p9 no register,", reg, 0, reg);
        }
    }

    /** Promise 9: "NONE, refused, when [..] of is no such array": nothing, an object, an array of ints. */
    private static void putItemOfNoSuchArray() {
        putItemIsRefused("p9 nothing,", Scene.NOTHING, 0, Scene.LEAF);
        putItemIsRefused("p9 an object,", Scene.OBJECT, 0, Scene.NOTHING);
        putItemIsRefused("p9 an object,", Scene.WIDE, 14, Scene.LEAF);
        putItemIsRefused("p9 of ints,", Scene.INTS, 0, Scene.LEAF);
        putItemIsRefused("p9 of ints,", Scene.LARGE_INTS, 0, Scene.LEAF);
    }

    /** Promise 9: "NONE, refused, when [..] or has no such item": no child is made either. */
    private static void putItemOfNoItem() {
        for (int i : NO_ITEMS_OF_3) {
            putItemIsRefused("p9 no item,", Scene.REFERENCES, i, Scene.LEAF);
        }
        for (int i : NO_ITEMS_OF_226) {
            putItemIsRefused("p9 no item,", Scene.LARGE_REFERENCES, i, Scene.LEAF);
        }
    }

    private static void lookItemIsNone(String promise, int of, int i) {
        String name = promise + " lookItem(" + of + ", " + i + ")";
        changesNothing(name, NO_INT, x -> x.lookItem(of, i));
    }

    /** Promise 10: "the least long when there is none": no register, nothing, an object, references, no such item. */
    private static void lookItemWhereNoneIs() {
        for (int reg : NO_REGISTERS) {
            lookItemIsNone("p10 no register,", reg, 0);
        }
        lookItemIsNone("p10 nothing,", Scene.NOTHING, 0);
        lookItemIsNone("p10 an object,", Scene.OBJECT, 0);
        lookItemIsNone("p10 an object,", Scene.LEAF, 0);
        lookItemIsNone("p10 of references,", Scene.REFERENCES, 1);
        lookItemIsNone("p10 of references,", Scene.LARGE_REFERENCES, 0);
        for (int i : NO_ITEMS_OF_3) {
            lookItemIsNone("p10 no item,", Scene.INTS, i);
        }
        for (int i : NO_ITEMS_OF_226) {
            lookItemIsNone("p10 no item,", Scene.LARGE_INTS, i);
        }
    }

    private static void setItemIsRefused(String promise, int of, int i) {
        String name = promise + " setItem(" + of + ", " + i + ", ..)";
        changesNothing(name, StepHeap.NONE, x -> x.setItem(of, i, 77));
        changesNothing(name, StepHeap.NONE, x -> x.setItem(of, i, 0));
    }

    /** Promise 11: "NONE, refused, when of is no such array": no register, nothing, an object, references. */
    private static void setItemOfNoSuchArray() {
        for (int reg : NO_REGISTERS) {
            setItemIsRefused("p11 no register,", reg, 0);
        }
        setItemIsRefused("p11 nothing,", Scene.NOTHING, 0);
        setItemIsRefused("p11 an object,", Scene.OBJECT, 0);
        setItemIsRefused("p11 an object,", Scene.LEAF, 0);
        setItemIsRefused("p11 of references,", Scene.REFERENCES, 0);
        setItemIsRefused("p11 of references,", Scene.LARGE_REFERENCES, 0);
    }

    /** Promise 11: "NONE, refused, when [..] or has no such item": no child is made either. */
    private static void setItemOfNoItem() {
        for (int i : NO_ITEMS_OF_3) {
            setItemIsRefused("p11 no item,", Scene.INTS, i);
        }
        for (int i : NO_ITEMS_OF_226) {
            setItemIsRefused("p11 no item,", Scene.LARGE_INTS, i);
        }
    }

    /** Promise 12: "False when one is none." */
    private static void copyOfNoRegister() {
        for (int reg : NO_REGISTERS) {
            changesNothing("p12 copy(" + reg + ", 0)", 0, x -> asNumber(x.copy(reg, Scene.OBJECT)));
            changesNothing("p12 copy(0, " + reg + ")", 0, x -> asNumber(x.copy(Scene.OBJECT, reg)));
            changesNothing("p12 copy(" + reg + ", " + reg + ")", 0, x -> asNumber(x.copy(reg, reg)));
        }
    }

    /** Promise 13: "False when there is none." */
    private static void dropOfNoRegister() {
        for (int reg : NO_REGISTERS) {
            changesNothing("p13 drop(" + reg + ")", 0, x -> asNumber(x.drop(reg)));
        }
    }

    /** Promise 14: "False when one is none": also when the other is nothing, or is none itself. */
    private static void sameOfNoRegister() {
        for (int reg : NO_REGISTERS) {
            changesNothing("p14 same(" + reg + ", 0)", 0, x -> asNumber(x.same(reg, Scene.OBJECT)));
            changesNothing("p14 same(0, " + reg + ")", 0, x -> asNumber(x.same(Scene.OBJECT, reg)));
            changesNothing("p14 same(" + reg + ", 7)", 0, x -> asNumber(x.same(reg, Scene.NOTHING)));
            changesNothing("p14 same(7, " + reg + ")", 0, x -> asNumber(x.same(Scene.NOTHING, reg)));
            changesNothing("p14 same(" + reg + ", " + reg + ")", 0, x -> asNumber(x.same(reg, reg)));
        }
    }

    private static void sizeIsNone(String promise, int reg, int what) {
        String name = promise + " size(" + reg + ", " + what + ")";
        changesNothing(name, StepHeap.NONE, x -> x.size(reg, what));
    }

    /** Promise 15: "NONE when it is nothing". */
    private static void sizeOfNothing() {
        for (int what = -1; what <= 4; what++) {
            sizeIsNone("p15 nothing,", Scene.NOTHING, what);
        }
    }

    /** Promise 15: "NONE when [..] there is no such register". */
    private static void sizeOfNoRegister() {
        for (int reg : NO_REGISTERS) {
            for (int what = 0; what <= 3; what++) {
                sizeIsNone("p15 no register,", reg, what);
            }
        }
    }

    /** Promise 15: "NONE when [..] or for another what". */
    private static void sizeOfAnotherWhat() {
        for (int reg = 0; reg < 8; reg++) {
            for (int what : new int[] {LEAST, -1, 4, 5, MOST}) {
                sizeIsNone("p15 another what,", reg, what);
            }
        }
    }

    /** Promise 16: "NONE for another what." */
    private static void toldOfAnotherWhat() {
        for (int what : new int[] {LEAST, -1, 5, 6, MOST}) {
            changesNothing("p16 told(" + what + ")", StepHeap.NONE, x -> x.told(what));
        }
    }
}
