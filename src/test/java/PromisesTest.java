/** The promises one by one: ordinary inputs, the edges that the document names, and wrong inputs. */
public final class PromisesTest {
    private static final long NO_INT = Long.MIN_VALUE;
    private static final int[] NO_REGISTERS = {Integer.MIN_VALUE, -1, 8, Integer.MAX_VALUE};

    private PromisesTest() {
    }

    public static void main(String[] args) {
        Check.due("NONE", StepHeap.NONE, -1);
        newObject();
        make();
        array();
        get();
        put();
        look();
        set();
        getItem();
        putItem();
        lookItem();
        setItem();
        copy();
        drop();
        same();
        size();
        told();
        toldOfManyCycles();
        noRoom();
        reachedAsTheCycleBegan();
        arraysAreMovedWhole();
        Check.end();
    }

    private static CountedHeap heap() {
        return new CountedHeap(1024, 1);
    }

    /** A chain of objects of 16 cells, the newest in register 0. */
    private static void chain(CountedHeap x, int count) {
        for (int i = 0; i < count; i++) {
            x.make(1, 2, 13);
            x.put(1, 0, 0);
            x.copy(0, 1);
        }
        x.drop(1);
    }

    private static void newObject() {
        int[][] limits = {
            {1024, 1, 512}, {0, 0, 512}, {1023, 1, 512}, {Integer.MIN_VALUE, Integer.MIN_VALUE, 512},
            {1025, 1, 512}, {1026, 1, 513}, {1024, 2, 682}, {1030, 3, 772}, {60000, 64, 59076}, {60000, 63, 59062},
            {60001, 65, 59076}, {Integer.MAX_VALUE, Integer.MAX_VALUE, 59076}, {60000, 1, 30000}, {59999, 1, 29999},
            {Integer.MAX_VALUE, 0, 30000}, {0, 100, 1008}};
        for (int[] row : limits) {
            CountedHeap x = new CountedHeap(row[0], row[1]);
            Check.due("p1 told(4) of " + row[0] + ", " + row[1], x.told(4), row[2]);
            Check.due("p1 told(0)", x.told(0), 0);
            Check.due("p1 told(1)", x.told(1), 1);
            Check.due("p1 told(2)", x.told(2), 0);
            Check.due("p1 told(3)", x.told(3), 0);
            Check.due("p1 steady()", x.steady(), true);
            for (int reg = 0; reg < 8; reg++) {
                Check.due("p1 size(reg, 3)", x.size(reg, 3), -1);
                Check.due("p1 drop(reg)", x.drop(reg), false);
                Check.due("p1 same(reg, 0)", x.same(reg, 0), true);
            }
        }
    }

    private static void make() {
        CountedHeap x = heap();
        for (int reg : NO_REGISTERS) {
            Check.due("p2 make of no register", x.make(reg, 1, 1), -1);
        }
        int[][] wrong = {{-1, 0}, {0, -1}, {-1, 16}, {16, -1}, {16, 0}, {0, 16}, {8, 8}, {15, 1}, {1, 15},
            {Integer.MAX_VALUE, Integer.MAX_VALUE}, {Integer.MAX_VALUE, 1}, {Integer.MIN_VALUE, Integer.MIN_VALUE},
            {Integer.MIN_VALUE, 3}};
        for (int[] row : wrong) {
            Check.due("p2 make(0, " + row[0] + ", " + row[1] + ")", x.make(0, row[0], row[1]), -1);
        }
        Check.due("p2 nothing was made", x.told(3), 0);
        Check.due("p2 the register stays", x.size(0, 3), -1);
        for (int refs = 0; refs <= 15; refs++) {
            for (int ints = 0; refs + ints <= 15; ints += 3) {
                CountedHeap y = heap();
                Check.due("p2 make", y.make(7, refs, ints), 1);
                Check.due("p2 made", y.told(3), 1 + refs + ints);
                Check.due("p2 references", y.size(7, 0), refs);
                Check.due("p2 ints", y.size(7, 1), ints);
                allNew(y, refs, ints);
            }
        }
        freshAfterManyMakings();
    }

    private static void allNew(CountedHeap y, int refs, int ints) {
        for (int field = 0; field < refs; field++) {
            y.copy(6, 7);
            Check.due("p2 get", y.get(6, 7, field), true);
            Check.due("p2 reference is nothing", y.size(6, 3), -1);
        }
        for (int field = 0; field < ints; field++) {
            Check.due("p2 int is 0", y.look(7, field), 0);
        }
    }

    /** The cells of what is dropped are used again, and must not show what they were. */
    private static void freshAfterManyMakings() {
        for (int field = 0; field < 7; field++) {
            CountedHeap x = heap();
            for (int i = 0; i < 80; i++) {
                Check.due("p2 make", x.make(7, 7, 8), 1);
                x.get(6, 7, field);
                Check.due("p2 reference is nothing", x.size(6, 3), -1);
                Check.due("p2 int is 0", x.look(7, field), 0);
                x.put(7, field, 7);
                x.set(7, field, -1 - i);
            }
            Check.due("p2 cycles began", x.told(0) > 1, true);
        }
    }

    private static void array() {
        CountedHeap x = heap();
        for (int reg : NO_REGISTERS) {
            Check.due("p3 array of no register", x.array(reg, 1, true), -1);
        }
        for (int length : new int[] {Integer.MIN_VALUE, -1, 3376, Integer.MAX_VALUE}) {
            Check.due("p3 array(0, " + length + ")", x.array(0, length, true), -1);
            Check.due("p3 array(0, " + length + ")", x.array(0, length, false), -1);
        }
        Check.due("p3 nothing was made", x.told(3), 0);
        int made = 0;
        for (int length : new int[] {0, 1, 14, 15, 16, 225, 226, 3374, 3375}) {
            Check.due("p3 array", x.array(3, length, length % 2 == 0), 1);
            made += 16;
            Check.due("p3 a node is made", x.told(3), made);
            Check.due("p3 items", x.size(3, 2), length);
        }
        for (int start = 0; start < 3375; start += 75) {
            itemsAreNew(start, start + 75);
        }
    }

    private static void itemsAreNew(int start, int end) {
        CountedHeap x = heap();
        x.array(2, 3375, false);
        x.array(3, 3375, true);
        for (int i = start; i < end; i++) {
            Check.due("p3 item is 0", x.lookItem(2, i), 0);
            x.copy(4, 3);
            Check.due("p3 getItem", x.getItem(4, 3, i), true);
            Check.due("p3 item is nothing", x.size(4, 3), -1);
        }
    }

    private static void get() {
        CountedHeap x = heap();
        x.make(0, 3, 2);
        x.make(1, 0, 1);
        x.set(1, 0, 77);
        x.put(0, 2, 1);
        Check.due("p4 get", x.get(2, 0, 2), true);
        Check.due("p4 it is the object", x.same(2, 1), true);
        Check.due("p4 its int", x.look(2, 0), 77);
        Check.due("p4 get of nothing there", x.get(2, 0, 1), true);
        Check.due("p4 it is nothing", x.size(2, 3), -1);
        Check.due("p4 into its own register", x.get(0, 0, 2), true);
        Check.due("p4 it is the object", x.same(0, 1), true);
        x.make(0, 3, 2);
        x.array(5, 20, true);
        for (int reg : NO_REGISTERS) {
            Check.due("p4 no register to", x.get(reg, 0, 0), false);
            Check.due("p4 no register of", x.get(1, reg, 0), false);
        }
        for (int field : new int[] {Integer.MIN_VALUE, -1, 3, 4, 15, Integer.MAX_VALUE}) {
            Check.due("p4 no reference", x.get(1, 0, field), false);
        }
        Check.due("p4 of nothing", x.get(1, 7, 0), false);
        Check.due("p4 of an array", x.get(1, 5, 0), false);
        Check.due("p4 refused: stays", x.look(1, 0), 77);
    }

    private static void put() {
        CountedHeap x = heap();
        x.make(0, 2, 1);
        x.make(1, 15, 0);
        Check.due("p5 put", x.put(0, 0, 1), true);
        Check.due("p5 put in itself", x.put(0, 1, 0), true);
        x.get(2, 0, 0);
        Check.due("p5 it is put", x.same(2, 1), true);
        x.get(2, 0, 1);
        Check.due("p5 it is itself", x.same(2, 0), true);
        Check.due("p5 put the last", x.put(1, 14, 0), true);
        Check.due("p5 put nothing", x.put(0, 0, 7), true);
        x.get(2, 0, 0);
        Check.due("p5 it is nothing", x.same(2, 7), true);
        Check.due("p5 the int beside stays", x.look(0, 0), 0);
        x.array(5, 15, true);
        for (int reg : NO_REGISTERS) {
            Check.due("p5 no register of", x.put(reg, 0, 1), false);
            Check.due("p5 no register from", x.put(0, 1, reg), false);
        }
        for (int field : new int[] {Integer.MIN_VALUE, -1, 2, 3, Integer.MAX_VALUE}) {
            Check.due("p5 no reference", x.put(0, field, 1), false);
        }
        Check.due("p5 of nothing", x.put(7, 0, 1), false);
        Check.due("p5 of an array", x.put(5, 0, 1), false);
        x.get(2, 0, 1);
        Check.due("p5 refused: stays", x.same(2, 0), true);
        x.getItem(2, 5, 0);
        Check.due("p5 refused: no item", x.same(2, 7), true);
    }

    private static void look() {
        CountedHeap x = heap();
        x.make(0, 2, 3);
        x.set(0, 0, Integer.MIN_VALUE);
        x.set(0, 1, -1);
        x.set(0, 2, Integer.MAX_VALUE);
        Check.due("p6 look", x.look(0, 0), Integer.MIN_VALUE);
        Check.due("p6 look", x.look(0, 1), -1);
        Check.due("p6 look", x.look(0, 2), Integer.MAX_VALUE);
        x.array(5, 15, false);
        x.setItem(5, 0, 4);
        for (int field : new int[] {Integer.MIN_VALUE, -1, 3, 5, Integer.MAX_VALUE}) {
            Check.due("p6 no int", x.look(0, field), NO_INT);
        }
        for (int reg : NO_REGISTERS) {
            Check.due("p6 no register", x.look(reg, 0), NO_INT);
        }
        Check.due("p6 of nothing", x.look(7, 0), NO_INT);
        Check.due("p6 of an array", x.look(5, 0), NO_INT);
    }

    private static void set() {
        CountedHeap x = heap();
        x.make(0, 1, 14);
        for (int field = 0; field < 14; field++) {
            Check.due("p7 set", x.set(0, field, field - 5), true);
        }
        for (int field = 0; field < 14; field++) {
            Check.due("p7 it is set", x.look(0, field), field - 5);
        }
        x.get(1, 0, 0);
        Check.due("p7 the reference beside stays", x.size(1, 3), -1);
        x.array(5, 15, false);
        for (int field : new int[] {Integer.MIN_VALUE, -1, 14, 15, Integer.MAX_VALUE}) {
            Check.due("p7 no int", x.set(0, field, 9), false);
        }
        for (int reg : NO_REGISTERS) {
            Check.due("p7 no register", x.set(reg, 0, 9), false);
        }
        Check.due("p7 of nothing", x.set(7, 0, 9), false);
        Check.due("p7 of an array", x.set(5, 0, 9), false);
        Check.due("p7 refused: stays", x.lookItem(5, 0), 0);
    }

    private static void getItem() {
        CountedHeap x = heap();
        x.array(0, 16, true);
        x.make(1, 0, 1);
        x.putItem(0, 15, 1);
        x.putItem(0, 15, 1);
        Check.due("p8 getItem", x.getItem(2, 0, 15), true);
        Check.due("p8 it is the item", x.same(2, 1), true);
        Check.due("p8 item of a child that is nothing", x.getItem(2, 0, 14), true);
        Check.due("p8 it is nothing", x.size(2, 3), -1);
        Check.due("p8 into its own register", x.getItem(0, 0, 15), true);
        Check.due("p8 it is the item", x.same(0, 1), true);
        x.array(0, 16, true);
        x.array(5, 16, false);
        x.make(6, 3, 3);
        for (int reg : NO_REGISTERS) {
            Check.due("p8 no register to", x.getItem(reg, 0, 0), false);
            Check.due("p8 no register of", x.getItem(1, reg, 0), false);
        }
        for (int i : new int[] {Integer.MIN_VALUE, -1, 16, 29, 3375, Integer.MAX_VALUE}) {
            Check.due("p8 no item", x.getItem(1, 0, i), false);
        }
        Check.due("p8 of nothing", x.getItem(1, 7, 0), false);
        Check.due("p8 of ints", x.getItem(1, 5, 0), false);
        Check.due("p8 of an object", x.getItem(1, 6, 0), false);
        Check.due("p8 refused: stays", x.size(1, 1), 1);
        x.array(0, 0, true);
        Check.due("p8 of no items", x.getItem(1, 0, 0), false);
    }

    private static void putItem() {
        CountedHeap x = new CountedHeap(60000, 1);
        x.make(1, 0, 0);
        x.array(0, 15, true);
        Check.due("p9 putItem, no child", x.putItem(0, 14, 1), 1);
        x.array(0, 226, true);
        long made = x.told(3);
        Check.due("p9 first child", x.putItem(0, 225, 1), 2);
        Check.due("p9 a node is made", x.told(3), made + 16);
        x.getItem(2, 0, 225);
        Check.due("p9 the item stays", x.size(2, 3), -1);
        Check.due("p9 second child", x.putItem(0, 225, 1), 2);
        Check.due("p9 a node is made", x.told(3), made + 32);
        x.getItem(2, 0, 225);
        Check.due("p9 the item stays", x.size(2, 3), -1);
        Check.due("p9 putItem", x.putItem(0, 225, 1), 1);
        x.getItem(2, 0, 225);
        Check.due("p9 it is put", x.same(2, 1), true);
        Check.due("p9 no node is made", x.told(3), made + 32);
        Check.due("p9 put nothing makes a child", x.putItem(0, 224, 7), 2);
        Check.due("p9 put nothing makes a child", x.putItem(0, 224, 7), 2);
        Check.due("p9 put nothing", x.putItem(0, 224, 7), 1);
        Check.due("p9 a child of its own", x.putItem(0, 209, 1), 2);
        Check.due("p9 putItem", x.putItem(0, 209, 1), 1);
        Check.due("p9 put nothing again", x.putItem(0, 225, 7), 1);
        x.getItem(2, 0, 225);
        Check.due("p9 it is nothing", x.same(2, 7), true);
        putItemEverywhere();
        putItemRefused();
    }

    private static void putItemEverywhere() {
        for (int start = 0; start < 3375; start += 75) {
            putItems(start, start + 75);
        }
    }

    /** Puts each seventh item, and looks at all of them. */
    private static void putItems(int start, int end) {
        CountedHeap x = new CountedHeap(60000, 1);
        x.array(0, 3375, true);
        for (int i = start; i < end; i += 7) {
            x.make(1, 0, 1);
            x.set(1, 0, i);
            int answer = x.putItem(0, i, 1);
            for (int again = 0; again < 2 && answer == 2; again++) {
                answer = x.putItem(0, i, 1);
            }
            Check.due("p9 putItem(0, " + i + ", 1)", answer, 1);
        }
        for (int i = start; i < end; i++) {
            x.getItem(1, 0, i);
            Check.due("p9 item " + i, x.look(1, 0), (i - start) % 7 == 0 ? i : NO_INT);
        }
        // 75 items are five of the last children, all of one child above them.
        Check.due("p9 children made", x.told(3), 16 + 11 * 2 + 16 + 5 * 16);
    }

    private static void putItemRefused() {
        CountedHeap x = heap();
        x.make(1, 1, 1);
        x.array(0, 16, true);
        x.array(5, 16, false);
        long made = x.told(3);
        for (int reg : NO_REGISTERS) {
            Check.due("p9 no register of", x.putItem(reg, 0, 1), -1);
            Check.due("p9 no register from", x.putItem(0, 0, reg), -1);
        }
        for (int i : new int[] {Integer.MIN_VALUE, -1, 16, 29, 3375, Integer.MAX_VALUE}) {
            Check.due("p9 no item", x.putItem(0, i, 1), -1);
        }
        Check.due("p9 of nothing", x.putItem(7, 0, 1), -1);
        Check.due("p9 of ints", x.putItem(5, 0, 1), -1);
        Check.due("p9 of an object", x.putItem(1, 0, 1), -1);
        Check.due("p9 refused: nothing is made", x.told(3), made);
    }

    private static void lookItem() {
        CountedHeap x = heap();
        x.array(0, 17, false);
        x.setItem(0, 16, -9);
        x.setItem(0, 16, -9);
        Check.due("p10 lookItem", x.lookItem(0, 16), -9);
        Check.due("p10 beside it", x.lookItem(0, 15), 0);
        Check.due("p10 of a child that is nothing", x.lookItem(0, 14), 0);
        x.array(5, 17, true);
        x.make(6, 3, 3);
        for (int i : new int[] {Integer.MIN_VALUE, -1, 17, 29, 3375, Integer.MAX_VALUE}) {
            Check.due("p10 no item", x.lookItem(0, i), NO_INT);
        }
        for (int reg : NO_REGISTERS) {
            Check.due("p10 no register", x.lookItem(reg, 0), NO_INT);
        }
        Check.due("p10 of nothing", x.lookItem(7, 0), NO_INT);
        Check.due("p10 of references", x.lookItem(5, 0), NO_INT);
        Check.due("p10 of an object", x.lookItem(6, 0), NO_INT);
    }

    private static void setItem() {
        CountedHeap x = heap();
        x.array(0, 15, false);
        Check.due("p11 setItem, no child", x.setItem(0, 14, Integer.MIN_VALUE), 1);
        Check.due("p11 it is set", x.lookItem(0, 14), Integer.MIN_VALUE);
        x.array(0, 225, false);
        Check.due("p11 child", x.setItem(0, 15, 3), 2);
        Check.due("p11 the item stays", x.lookItem(0, 15), 0);
        Check.due("p11 setItem", x.setItem(0, 15, 3), 1);
        Check.due("p11 it is set", x.lookItem(0, 15), 3);
        Check.due("p11 the same child", x.setItem(0, 29, 4), 1);
        Check.due("p11 the next child, for 0 too", x.setItem(0, 30, 0), 2);
        x.array(0, 3375, false);
        Check.due("p11 first child", x.setItem(0, 240, 5), 2);
        Check.due("p11 second child", x.setItem(0, 240, 5), 2);
        Check.due("p11 setItem", x.setItem(0, 240, 5), 1);
        Check.due("p11 second child alone", x.setItem(0, 225, 6), 2);
        Check.due("p11 setItem", x.setItem(0, 225, 6), 1);
        Check.due("p11 first child", x.setItem(0, 224, 6), 2);
        x.array(5, 17, true);
        x.make(6, 3, 3);
        long made = x.told(3);
        for (int i : new int[] {Integer.MIN_VALUE, -1, 3375, Integer.MAX_VALUE}) {
            Check.due("p11 no item", x.setItem(0, i, 1), -1);
        }
        for (int reg : NO_REGISTERS) {
            Check.due("p11 no register", x.setItem(reg, 0, 1), -1);
        }
        Check.due("p11 of nothing", x.setItem(7, 0, 1), -1);
        Check.due("p11 of references", x.setItem(5, 0, 1), -1);
        Check.due("p11 of an object", x.setItem(6, 0, 1), -1);
        Check.due("p11 refused: nothing is made", x.told(3), made);
    }

    private static void copy() {
        CountedHeap x = heap();
        x.make(0, 1, 1);
        Check.due("p12 copy", x.copy(7, 0), true);
        Check.due("p12 it is the same", x.same(7, 0), true);
        x.set(7, 0, 12);
        Check.due("p12 one object", x.look(0, 0), 12);
        Check.due("p12 to itself", x.copy(0, 0), true);
        for (int reg : NO_REGISTERS) {
            Check.due("p12 no register to", x.copy(reg, 0), false);
            Check.due("p12 no register from", x.copy(0, reg), false);
        }
        Check.due("p12 refused: stays", x.look(0, 0), 12);
        Check.due("p12 copy nothing", x.copy(0, 3), true);
        Check.due("p12 it is nothing", x.size(0, 3), -1);
    }

    private static void drop() {
        CountedHeap x = heap();
        x.make(0, 1, 1);
        x.copy(1, 0);
        Check.due("p13 drop", x.drop(0), true);
        Check.due("p13 it is nothing", x.size(0, 3), -1);
        Check.due("p13 the other stays", x.size(1, 3), 3);
        Check.due("p13 drop of nothing", x.drop(0), false);
        for (int reg : NO_REGISTERS) {
            Check.due("p13 no register", x.drop(reg), false);
        }
    }

    private static void same() {
        CountedHeap x = heap();
        x.make(0, 1, 1);
        x.make(1, 1, 1);
        x.copy(2, 0);
        Check.due("p14 same", x.same(0, 2), true);
        Check.due("p14 itself", x.same(0, 0), true);
        Check.due("p14 alike, but another", x.same(0, 1), false);
        Check.due("p14 one is nothing", x.same(0, 7), false);
        Check.due("p14 one is nothing", x.same(7, 0), false);
        Check.due("p14 both are nothing", x.same(6, 7), true);
        for (int reg : NO_REGISTERS) {
            Check.due("p14 no register", x.same(reg, 0), false);
            Check.due("p14 no register", x.same(7, reg), false);
            Check.due("p14 no register", x.same(reg, reg), false);
        }
        sameWhileMoved();
    }

    /** The object that is reached on two ways is one, in every cycle and in the middle of one. */
    private static void sameWhileMoved() {
        CountedHeap x = heap();
        x.make(0, 2, 0);
        x.make(1, 2, 1);
        x.put(0, 0, 1);
        x.put(0, 1, 1);
        x.put(1, 1, 0);
        for (int i = 0; i < 50; i++) {
            x.make(2, 15, 0);
            x.get(3, 0, 0);
            x.get(4, 0, 1);
            x.get(5, 3, 1);
            Check.due("p14 one object", x.same(3, 4), true);
            Check.due("p14 a round way", x.same(5, 0), true);
            x.drop(3);
            x.drop(4);
            x.drop(5);
        }
    }

    private static void size() {
        CountedHeap x = heap();
        x.make(0, 5, 9);
        x.array(1, 3375, true);
        x.array(2, 7, false);
        x.array(3, 0, false);
        x.make(4, 0, 0);
        int[][] rows = {{0, 5, 9, -1, 15}, {1, -1, -1, 3375, 16}, {2, -1, -1, 7, 16}, {3, -1, -1, 0, 16},
            {4, 0, 0, -1, 1}, {5, -1, -1, -1, -1}, {-1, -1, -1, -1, -1}, {8, -1, -1, -1, -1}};
        for (int[] row : rows) {
            for (int what = 0; what <= 3; what++) {
                Check.due("p15 size(" + row[0] + ", " + what + ")", x.size(row[0], what), row[1 + what]);
            }
            for (int what : new int[] {Integer.MIN_VALUE, -1, 4, Integer.MAX_VALUE}) {
                Check.due("p15 size of another what", x.size(row[0], what), -1);
            }
        }
        x.putItem(1, 0, 0);
        Check.due("p15 the first node alone", x.size(1, 3), 16);
    }

    private static void told() {
        CountedHeap x = heap();
        for (int what : new int[] {Integer.MIN_VALUE, -1, 5, Integer.MAX_VALUE}) {
            Check.due("p16 told of another what", x.told(what), -1);
        }
        for (int i = 0; i < 32; i++) {
            x.make(i % 8, 0, 15);
        }
        toldIs(x, 0, 1, 0, 512);
        Check.due("p16 a cell more", x.make(0, 0, 0), 1);
        toldIs(x, 1, 0, -1, 1);
        for (int made = 17; made <= 113; made += 16) {
            x.make(0, 0, 15);
            toldIs(x, 1, 0, -1, made);
        }
        x.make(0, 0, 13);
        toldIs(x, 1, 0, -1, 127);
        x.make(0, 0, 0);
        toldIs(x, 1, 1, 128, 128);
        for (int i = 0; i < 16; i++) {
            x.make(0, 0, 15);
        }
        toldIs(x, 1, 1, 128, 384);
        for (int reg = 0; reg < 8; reg++) {
            x.drop(reg);
        }
        toldIs(x, 1, 1, 128, 384);
        x.make(0, 0, 0);
        toldIs(x, 2, 1, 0, 1);
    }

    private static void toldIs(CountedHeap x, int begun, int done, int reached, int made) {
        Check.due("p16 told(0)", x.told(0), begun);
        Check.due("p16 told(1)", x.told(1), done);
        Check.due("p16 told(2)", x.told(2), reached);
        Check.due("p16 told(3)", x.told(3), made);
        Check.due("p16 told(4)", x.told(4), 512);
    }

    /** 58 cells stay reached, the rest is dropped at once: R and the beginnings follow from the rule alone. */
    private static void toldOfManyCycles() {
        for (int offset = 0; offset < 5; offset++) {
            CountedHeap x = new CountedHeap(1024, 3);
            x.make(0, 3, 12);
            for (int field = 0; field < 3; field++) {
                x.make(1, 0, 13);
                x.put(0, field, 1);
            }
            x.drop(1);
            toldFollowsTheRule(x, offset);
        }
    }

    private static void toldFollowsTheRule(CountedHeap x, int offset) {
        int made = 58;
        int begun = 0;
        int reached = 0;
        for (int i = 0; i < 250; i++) {
            x.make(2, 0, 12);
            if (3 * made >= reached && reached + made + 13 > 768) {
                begun++;
                reached = 58 + (i == 0 ? 0 : 13);
                made = 0;
            }
            made += 13;
            // Each fifth making, another one in each run, as the calls are too few for all.
            if (i % 5 == offset) {
                boolean done = 3 * made >= reached;
                Check.told("p16 many cycles", x, begun, done ? 1 : 0, done ? reached : -1, made);
            }
        }
        Check.due("p16 cycles began", begun > 3, true);
    }

    private static void noRoom() {
        CountedHeap x = heap();
        x.array(5, 3375, false);
        x.array(6, 3375, true);
        chain(x, 30);
        Check.due("p2 the first cycle is full", x.told(3), 512);
        chain(x, 32);
        Check.due("p2 a cycle goes on, R = 512", x.told(2), 512);
        chain(x, 1);
        Check.due("p2 R = 1024 comes", x.told(1), 0);
        chain(x, 62);
        Check.due("p2 before it is done", x.told(1), 0);
        Check.due("p2 there is room before", x.make(7, 0, 15), 1);
        toldIs(x, 2, 1, 1024, 1024);
        Check.due("p2 no room", x.make(7, 0, 0), 0);
        Check.due("p3 no room", x.array(7, 0, true), 0);
        Check.due("p9 no room", x.putItem(6, 3374, 0), 0);
        Check.due("p11 no room", x.setItem(5, 3374, 1), 0);
        Check.due("p2 refused is refused", x.make(8, 0, 0), -1);
        Check.due("p3 refused is refused", x.array(7, -1, true), -1);
        Check.due("p9 refused is refused", x.putItem(6, 3375, 0), -1);
        Check.due("p11 refused is refused", x.setItem(5, 3375, 1), -1);
        Check.due("p2 the register stays", x.size(7, 1), 15);
        toldIs(x, 2, 1, 1024, 1024);
        for (int reg = 0; reg < 8; reg++) {
            x.drop(reg);
        }
        Check.due("p2 no room, as R is what it was", x.make(7, 0, 0), 0);
        toldIs(x, 2, 1, 1024, 1024);
        Check.due("p17 steady()", x.steady(), true);
    }

    /** What is cut off in the middle of a cycle counts for its R, wherever it hung. */
    private static void reachedAsTheCycleBegan() {
        for (int cut = 0; cut < 3; cut++) {
            CountedHeap x = heap();
            x.array(6, 16, true);
            x.putItem(6, 15, 6);
            chain(x, 14);
            x.putItem(6, 15, 0);
            x.make(1, 2, 0);
            x.put(1, 1, 6);
            x.copy(0, 1);
            x.drop(6);
            x.drop(1);
            for (int i = 0; x.told(0) == 0 && i < 100; i++) {
                x.make(7, 0, 15);
            }
            x.drop(7);
            if (cut == 1) {
                x.put(0, 1, 7);
            } else if (cut == 2) {
                x.get(1, 0, 1);
                x.putItem(1, 15, 7);
                x.drop(1);
                x.drop(0);
            }
            int reached = 3 + 16 + 16 + 14 * 16 + 16;
            Fill.wasteUntil(x, reached - 1);
            Check.due("p16 not done, cut " + cut, x.told(1), 0);
            x.make(7, 0, 0);
            Check.due("p16 R, cut " + cut, x.told(2), reached);
            Check.due("p16 made, cut " + cut, x.told(3), reached);
        }
    }

    private static void arraysAreMovedWhole() {
        CountedHeap x = new CountedHeap(1024, 2);
        x.array(0, 3375, false);
        x.array(1, 3375, true);
        x.putItem(1, 3000, 0);
        x.putItem(1, 3000, 0);
        x.putItem(1, 3000, 0);
        x.drop(0);
        for (int i = 0; i < 60; i++) {
            x.getItem(2, 1, 3000);
            int item = i % 5 * 700;
            for (int times = 0; times < 3; times++) {
                x.setItem(2, item, i);
            }
            Check.due("p11 set", x.lookItem(2, item), i);
            Check.due("p10 set before", x.lookItem(2, (i + 1) % 5 * 700), i < 4 ? 0 : i - 4);
            x.make(3, 15, 0);
        }
        Check.due("p16 cycles began", x.told(0) > 0, true);
        Check.due("p17 steady()", x.steady(), true);
    }
}
