import java.util.function.ToIntFunction;

/** The sentences of the document's Terms on what is reached, on cycles, and on making, each at its edges. */
public final class CyclesTest {
    private static final int[] PACES = {1, 2, 3, 5, 7, 63, 64};

    private interface Steps {
        void on(CountedHeap x);
    }

    /** A call that makes something, what it needs to stand before, and what it answers when there is room. */
    private static final class Making {
        final String name;
        final int cells;
        final int answer;
        final Steps before;
        final ToIntFunction<CountedHeap> call;

        Making(String name, int cells, int answer, Steps before, ToIntFunction<CountedHeap> call) {
            this.name = name;
            this.cells = cells;
            this.answer = answer;
            this.before = before;
            this.call = call;
        }
    }

    /** Each keeps 32 cells in registers 5 and 6 before, so that the same rows fit all of them. */
    private static final Making[] MAKINGS = {
        new Making("make(7, 0, 0)", 1, 1, CyclesTest::twoArrays, x -> x.make(7, 0, 0)),
        new Making("make(7, 1, 0)", 2, 1, CyclesTest::twoArrays, x -> x.make(7, 1, 0)),
        new Making("make(7, 7, 8)", 16, 1, CyclesTest::twoArrays, x -> x.make(7, 7, 8)),
        new Making("array(7, 0, true)", 16, 1, CyclesTest::twoArrays, x -> x.array(7, 0, true)),
        new Making("array(7, 3375, false)", 16, 1, CyclesTest::twoArrays, x -> x.array(7, 3375, false)),
        new Making("putItem(6, 15, 6), the only child", 16, 2, CyclesTest::twoArrays, x -> x.putItem(6, 15, 6)),
        new Making("setItem(5, 225, 1), the first child", 16, 2, CyclesTest::twoArrays, x -> x.setItem(5, 225, 1)),
        new Making("setItem(6, 225, 1), the second child", 16, 2, CyclesTest::arrayWithAChild,
            x -> x.setItem(6, 225, 1)),
    };

    private CyclesTest() {
    }

    public static void main(String[] args) {
        limitIsRoundedDown();
        firstCycleHasNothingReached();
        doneAsSoonAs();
        doneBySteps();
        madeBecomesMoreByN();
        newCycleAboveLimit();
        newCycleAboveLimitInALaterCycle();
        nothingIsAskedWhenNotDone();
        noRoomAboveLimit();
        noRoomChangesNothing();
        noRoomStays();
        fullestHalf();
        whatIsMadeIsWholeWhenACycleBegins();
        reachedIsNothing();
        reachedByRegisters();
        reachedByAllRegisters();
        reachedByReferences();
        reachedByItems();
        reachedByChildren();
        notReached();
        reachedIsCountedAsTheCycleBegan();
        madeInTheCycleIsNotReached();
        Check.end();
    }

    private static void twoArrays(CountedHeap x) {
        x.array(5, 226, false);
        x.array(6, 16, true);
    }

    private static void arrayWithAChild(CountedHeap x) {
        x.array(6, 226, false);
        x.setItem(6, 225, 1);
    }

    private static int neededToBeDone(int reached, int k) {
        return (reached + k - 1) / k;
    }

    /** Terms: "LIMIT is H * k / (k + 1), rounded down." */
    private static void limitIsRoundedDown() {
        int[][] rows = {{1024, 1, 512}, {1025, 1, 512}, {1026, 1, 513}, {1024, 2, 682}, {1025, 2, 683}, {1026, 2, 684},
            {1027, 2, 684}, {1030, 3, 772}, {1032, 3, 774}, {1024, 64, 1008}, {1039, 64, 1023}, {1040, 64, 1024},
            {1041, 64, 1024}, {59999, 1, 29999}, {60000, 1, 30000}, {59999, 63, 59061}, {60000, 63, 59062},
            {60000, 64, 59076}};
        for (int[] row : rows) {
            CountedHeap x = new CountedHeap(row[0], row[1]);
            Check.due("Terms, LIMIT of " + row[0] + ", " + row[1] + ", told(4)", x.told(4), row[2]);
        }
    }

    /** Terms: "The first one has R = 0." So it is done before anything is made, and stays so. */
    private static void firstCycleHasNothingReached() {
        for (int k : PACES) {
            CountedHeap x = new CountedHeap(1024, k);
            Check.told("Terms, first cycle, nothing made", x, 0, 1, 0, 0);
            x.make(0, 0, 0);
            Check.told("Terms, first cycle, a cell", x, 0, 1, 0, 1);
            Fill.firstCycle(x);
            Check.told("Terms, first cycle, full", x, 0, 1, 0, x.told(4));
        }
    }

    /** Terms: "it is DONE as soon as k * made >= R": with the cell that makes them equal, or above, not one before. */
    private static void doneAsSoonAs() {
        int[] rows = {1, 2, 3, 15, 16, 17, 62, 63, 64, 65, 66, 126, 127, 128, 129, 192, 193, 300};
        for (int k : PACES) {
            for (int reached : rows) {
                CountedHeap x = new CountedHeap(1024, k);
                Fill.keep(x, reached);
                Fill.firstCycle(x);
                isDoneWith("Terms, DONE, k " + k, x, 1, k, reached);
            }
        }
    }

    /** The next making begins a cycle; it is done with just as many cells as are needed for what is reached now. */
    private static void isDoneWith(String what, CountedHeap x, int begun, int k, int reached) {
        int needed = neededToBeDone(reached, k);
        if (needed > 1) {
            Fill.waste(x, needed - 1);
            Check.told(what + ", R " + reached + ", a cell less", x, begun, 0, -1, needed - 1);
        }
        x.make(7, 0, 0);
        Check.told(what + ", R " + reached, x, begun, 1, reached, Math.max(1, needed));
    }

    /** Terms: "it is DONE as soon as k * made >= R", where a making of 16 cells steps over the edge. */
    private static void doneBySteps() {
        int[][] rows = {{1, 16, 1}, {1, 17, 2}, {1, 32, 2}, {1, 33, 3}, {2, 32, 1}, {2, 33, 2}, {3, 48, 1}, {3, 49, 2},
            {64, 800, 1}, {64, 1000, 1}};
        for (int[] row : rows) {
            CountedHeap x = new CountedHeap(1024, row[0]);
            Fill.keep(x, row[1]);
            Fill.firstCycle(x);
            for (int step = 1; step <= row[2]; step++) {
                x.make(7, 8, 7);
                boolean done = step == row[2];
                Check.told("Terms, DONE by steps", x, 1, done ? 1 : 0, done ? row[1] : -1, 16 * step);
            }
        }
    }

    /** Terms: "Then made becomes more by n", behind "a new cycle begins ([..] made 0)" too. */
    private static void madeBecomesMoreByN() {
        for (int n = 1; n <= 16; n++) {
            CountedHeap x = new CountedHeap(1024, 1);
            x.make(0, n - 1, 0);
            Check.due("Terms, made, told(3)", x.told(3), n);
            x.make(1, 0, n - 1);
            Check.due("Terms, made, told(3)", x.told(3), 2 * n);
            Fill.firstCycle(x);
            x.make(2, n - 1, 0);
            Check.due("Terms, made in a new cycle, told(0)", x.told(0), 1);
            Check.due("Terms, made in a new cycle, told(3)", x.told(3), n);
        }
    }

    /** Terms: "when it is done and R + made + n is above LIMIT, a new cycle begins": not when it is LIMIT. */
    private static void newCycleAboveLimit() {
        for (Making making : MAKINGS) {
            for (int k : PACES) {
                CountedHeap x = new CountedHeap(1024, k);
                making.before.on(x);
                int limit = x.told(4);
                Fill.wasteUntil(x, limit - making.cells);
                String what = "Terms, R + made + n = LIMIT, k " + k + ", " + making.name;
                Check.due(what, making.call.applyAsInt(x), making.answer);
                Check.told(what, x, 0, 1, 0, limit);

                x = new CountedHeap(1024, k);
                making.before.on(x);
                Fill.wasteUntil(x, limit - making.cells + 1);
                what = "Terms, R + made + n = LIMIT + 1, k " + k + ", " + making.name;
                Check.due(what, making.call.applyAsInt(x), making.answer);
                boolean done = k * making.cells >= 32;
                Check.told(what, x, 1, done ? 1 : 0, done ? 32 : -1, making.cells);
            }
        }
    }

    /** Terms, the same sentence, where R is not 0. */
    private static void newCycleAboveLimitInALaterCycle() {
        for (Making making : MAKINGS) {
            for (int k : PACES) {
                CountedHeap x = secondCycle(making, k, 0);
                int limit = x.told(4);
                String what = "Terms, R + made + n = LIMIT behind the first, k " + k + ", " + making.name;
                Check.due(what, making.call.applyAsInt(x), making.answer);
                Check.told(what, x, 1, 1, 132, limit - 132);

                x = secondCycle(making, k, 1);
                what = "Terms, R + made + n = LIMIT + 1 behind the first, k " + k + ", " + making.name;
                Check.due(what, making.call.applyAsInt(x), making.answer);
                boolean done = k * making.cells >= 132;
                Check.told(what, x, 2, done ? 1 : 0, done ? 132 : -1, making.cells);
            }
        }
    }

    /** A heap in the cycle behind the first, with R = 132, that has room for the making's cells less so many. */
    private static CountedHeap secondCycle(Making making, int k, int less) {
        CountedHeap x = new CountedHeap(1024, k);
        making.before.on(x);
        Fill.keep(x, 100);
        Fill.firstCycle(x);
        Fill.waste(x, 1);
        Fill.wasteUntil(x, x.told(4) - 132 - making.cells + less);
        Check.due("Terms, the cycle behind the first, told(0)", x.told(0), 1);
        return x;
    }

    /** Terms: "otherwise nothing is asked": while it is not done, R + made + n may be above LIMIT. */
    private static void nothingIsAskedWhenNotDone() {
        for (Making making : MAKINGS) {
            CountedHeap x = new CountedHeap(1024, 1);
            making.before.on(x);
            Fill.keep(x, 512 - 32);
            x.make(7, 0, 0);
            x.drop(7);
            Check.told("Terms, R = LIMIT, not done", x, 1, 0, -1, 1);
            Check.due("Terms, not done, " + making.name, making.call.applyAsInt(x), making.answer);
            Check.told("Terms, not done, " + making.name, x, 1, 0, -1, 1 + making.cells);
            Fill.wasteUntil(x, 511);
            Check.told("Terms, not done, a cell less", x, 1, 0, -1, 511);
            x.make(7, 0, 0);
            Check.told("Terms, done", x, 1, 1, 512, 512);
        }
    }

    /** A heap in a done cycle with R = LIMIT and so many cells more; the making that is next is asked. */
    private static CountedHeap doneAt(Making making, int k, int more) {
        CountedHeap x = new CountedHeap(1024, k);
        making.before.on(x);
        int limit = x.told(4);
        Fill.keep(x, limit - 32);
        for (int extra = 0; extra < more; extra++) {
            x.make(2 + extra, 0, 0);
        }
        Fill.waste(x, more == 0 ? 1 : 0);
        Fill.wasteUntil(x, neededToBeDone(limit, k));
        Check.told("Terms, R = LIMIT", x, 1, 1, limit, neededToBeDone(limit, k));
        isDoneWith("Terms, R above LIMIT, but not done: there is room", x, 2, k, limit + more);
        x.drop(7);
        return x;
    }

    /** Terms: "when the cycle is done and R is above LIMIT, there is NO ROOM": not when R is LIMIT, or not done. */
    private static void noRoomAboveLimit() {
        for (Making making : MAKINGS) {
            for (int k : PACES) {
                CountedHeap x = doneAt(making, k, 0);
                String what = "Terms, R = LIMIT, k " + k + ", " + making.name;
                Check.due(what, making.call.applyAsInt(x), making.answer);
                Check.due(what + ", told(0)", x.told(0), 3);
                Check.due(what + ", told(3)", x.told(3), making.cells);
                for (int more = 1; more <= 2; more++) {
                    x = doneAt(making, k, more);
                    int reached = x.told(2);
                    int made = x.told(3);
                    what = "Terms, R = LIMIT + " + more + ", k " + k + ", " + making.name;
                    Check.due(what, making.call.applyAsInt(x), 0);
                    Check.told(what, x, 2, 1, reached, made);
                    Check.due(what + ", R is above LIMIT", reached, x.told(4) + more);
                }
            }
        }
    }

    /** Terms: "there is NO ROOM, and nothing changes"; promises 2, 3, 9 and 11: "0 when there is no room". */
    private static void noRoomChangesNothing() {
        for (int reg = 0; reg < 8; reg++) {
            int at = reg;
            hasNoRoom("p2 make(" + reg + ", 0, 0)", x -> x.make(at, 0, 0));
            hasNoRoom("p2 make(" + reg + ", 15, 0)", x -> x.make(at, 15, 0));
            hasNoRoom("p3 array(" + reg + ", 0, true)", x -> x.array(at, 0, true));
            hasNoRoom("p3 array(" + reg + ", 3375, false)", x -> x.array(at, 3375, false));
            hasNoRoom("p9 putItem(4, 0, " + reg + ")", x -> x.putItem(Scene.LARGE_REFERENCES, 0, at));
            hasNoRoom("p9 putItem(4, 225, " + reg + ")", x -> x.putItem(Scene.LARGE_REFERENCES, 225, at));
        }
        hasNoRoom("p11 setItem(5, 0, 9)", x -> x.setItem(Scene.LARGE_INTS, 0, 9));
        hasNoRoom("p11 setItem(5, 225, 0)", x -> x.setItem(Scene.LARGE_INTS, 225, 0));
    }

    private static void hasNoRoom(String name, ToIntFunction<CountedHeap> call) {
        Scene scene = new Scene(Scene.State.FULL);
        Check.due(name + " with no room", call.applyAsInt(scene.heap), 0);
        scene.isAsItWas(name);
    }

    /** Terms, the same sentence: R is what was reached as the cycle began, so to drop all makes no room. */
    private static void noRoomStays() {
        CountedHeap x = new Scene(Scene.State.FULL).heap;
        for (int reg = 0; reg < 8; reg++) {
            x.drop(reg);
        }
        Check.due("Terms, no room, all dropped", x.make(0, 0, 0), 0);
        Check.isNothing("Terms, no room, all dropped", x, 0);
        Check.told("Terms, no room, all dropped", x, 2, 1, 1015, 16);
    }

    /**
     * Terms: "two halves of 2 * H + 64 cells each": R and made together become at most 2 * H + 45 by the rule, when all
     * is kept and each cycle is done with 15 cells more than it needs. Nothing is lost then.
     */
    private static void fullestHalf() {
        for (int h : new int[] {1024, 1025}) {
            CountedHeap x = new CountedHeap(h, 1);
            x.array(0, 3375, false);
            grow(x, 0, 31);
            Check.told("Terms, all is kept", x, 0, 1, 0, 512);
            x.make(1, 0, 14);
            x.set(1, 13, -1);
            grow(x, 31, 62);
            Check.told("Terms, all is kept, a cell less", x, 1, 0, -1, 511);
            grow(x, 62, 63);
            Check.told("Terms, all is kept, 15 cells more", x, 1, 1, 512, 527);
            x.make(2, 0, 13);
            x.set(2, 12, -2);
            grow(x, 63, 127);
            Check.told("Terms, all is kept, a cell less", x, 2, 0, -1, 1038);
            grow(x, 127, 128);
            Check.told("Terms, all is kept, 15 cells more", x, 2, 1, 1039, 1054);
            Check.due("Terms, a full half, look(1, 13)", x.look(1, 13), -1);
            Check.due("Terms, a full half, look(2, 12)", x.look(2, 12), -2);
            for (int n = 0; n < 128; n++) {
                int i = Fill.itemOfChild(n) + 14;
                Check.due("Terms, a full half, lookItem(0, " + i + ")", x.lookItem(0, i), valueBehind(n, 128));
            }
            Check.due("Terms, a full half, steady()", x.steady(), true);
        }
    }

    /**
     * Makes the children of the array in register 0 from one to another. The last ones among them get a number, in
     * their last cell, as that is the first to be lost if two nodes lie too close.
     */
    private static void grow(CountedHeap x, int from, int to) {
        for (int n = from; n < to; n++) {
            int i = Fill.itemOfChild(n);
            Check.due("Terms, child " + n, x.setItem(0, i, 0), 2);
            if (n % 16 != 0) {
                Check.due("Terms, an item of child " + n, x.setItem(0, i + 14, 1000 + n), 1);
            }
        }
    }

    /** A child of children is made for an item that its own first child has. */
    private static int valueBehind(int n, int count) {
        int last = n % 16 == 0 ? n + 1 : n;
        return last < count ? 1000 + last : 0;
    }

    /** Terms: "a new cycle begins [..] Then": what the call makes then is as ever, and where it belongs. */
    private static void whatIsMadeIsWholeWhenACycleBegins() {
        for (Making making : MAKINGS) {
            CountedHeap x = new CountedHeap(1024, 2);
            making.before.on(x);
            Fill.firstCycle(x);
            Check.due("Terms, a cycle begins, " + making.name, making.call.applyAsInt(x), making.answer);
            Check.due("Terms, a cycle began, " + making.name, x.told(0), 1);
            if (making.answer == 1) {
                Check.due("Terms, made as a cycle begins", x.size(7, 3), making.cells);
                continue;
            }
            for (int times = 0; times < 2 && making.call.applyAsInt(x) == 2; times++) {
                Check.due("Terms, the other child, " + making.name, making.name.contains("first"), true);
            }
            Check.due("Terms, the children stand, " + making.name, making.call.applyAsInt(x), 1);
        }
    }

    private static void reachedIs(String what, int want, Steps before) {
        for (int k : new int[] {1, 2, 64}) {
            CountedHeap x = new CountedHeap(1024, k);
            before.on(x);
            Fill.firstCycle(x);
            isDoneWith("Terms, REACHED, " + what + ", k " + k, x, 1, k, want);
        }
    }

    /** Terms: "REACHED is what a register has": with none, R is 0, and a new cycle is done at once. */
    private static void reachedIsNothing() {
        reachedIs("nothing was made", 0, x -> x.drop(0));
        reachedIs("all was dropped", 0, x -> {
            x.make(0, 15, 0);
            x.put(0, 14, 0);
            x.drop(0);
        });
    }

    /** Terms: "REACHED is what a register has": each object once, in however many registers it is. */
    private static void reachedByRegisters() {
        reachedIs("one of a cell", 1, x -> x.make(6, 0, 0));
        reachedIs("one in all registers but one", 16, x -> {
            x.make(0, 15, 0);
            for (int reg = 1; reg < 7; reg++) {
                x.copy(reg, 0);
            }
        });
        reachedIs("each register another", 1 + 2 + 3 + 4 + 5 + 6 + 7, x -> {
            for (int reg = 0; reg < 7; reg++) {
                x.make(reg, reg, 0);
            }
        });
        reachedIs("arrays", 32, x -> {
            x.array(0, 0, true);
            x.array(1, 3375, false);
        });
    }

    /** Terms: "(R is what is reached then [..])": also what the register was that the making changes. */
    private static void reachedByAllRegisters() {
        for (int reg = 0; reg < 8; reg++) {
            CountedHeap x = new CountedHeap(1024, 1);
            Fill.waste(x, 512 - 8 * 16);
            for (int each = 0; each < 8; each++) {
                x.make(each, 7, 8);
            }
            Check.told("Terms, eight registers", x, 0, 1, 0, 512);
            x.make(reg, 0, 15);
            for (int i = 0; i < 7; i++) {
                Check.told("Terms, eight registers", x, 1, 0, -1, 16 + 16 * i);
                x.make(reg, 0, 15);
            }
            Check.told("Terms, eight registers", x, 1, 1, 128, 128);
        }
    }

    /** Terms: "and what it leads to by references": from the first to the last, far, in rings, and each once. */
    private static void reachedByReferences() {
        for (int field = 0; field < 15; field++) {
            int last = field;
            reachedIs("by reference " + field, 16 + 2, x -> {
                x.make(0, 15, 0);
                x.make(1, 0, 1);
                x.put(0, last, 1);
                x.drop(1);
            });
        }
        reachedIs("by references of an object with ints", 16 + 9, x -> {
            x.make(0, 1, 14);
            x.make(1, 4, 4);
            x.put(0, 0, 1);
            x.drop(1);
        });
        reachedIs("itself", 2, x -> {
            x.make(0, 1, 0);
            x.put(0, 0, 0);
        });
        reachedIs("a ring", 5, x -> {
            x.make(0, 1, 0);
            x.make(1, 1, 1);
            x.put(0, 0, 1);
            x.put(1, 0, 0);
            x.drop(1);
        });
        reachedIs("two ways", 3 + 16, x -> {
            x.make(0, 2, 0);
            x.make(1, 0, 15);
            x.put(0, 0, 1);
            x.put(0, 1, 1);
            x.drop(1);
        });
        reachedIs("a long chain", 497, x -> Fill.keep(x, 497));
    }

    /** Terms: "by [..] items": of an array of few and of many, the first and the last. */
    private static void reachedByItems() {
        for (int i : new int[] {0, 14}) {
            reachedIs("by item " + i + " of 15", 16 + 3, x -> itemAlone(x, 15, i, 1));
        }
        for (int i : new int[] {0, 14, 15, 224}) {
            reachedIs("by item " + i + " of 225", 32 + 3, x -> itemAlone(x, 225, i, 2));
        }
        for (int i : new int[] {0, 224, 225, 3374}) {
            reachedIs("by item " + i + " of 3375", 48 + 3, x -> itemAlone(x, 3375, i, 3));
        }
        reachedIs("an array in itself", 16, x -> {
            x.array(0, 1, true);
            x.putItem(0, 0, 0);
        });
    }

    /** An array in register 0 alone, one of whose items is an object of three cells. */
    private static void itemAlone(CountedHeap x, int length, int i, int times) {
        x.array(0, length, true);
        x.make(1, 1, 1);
        for (int time = 0; time < times; time++) {
            x.putItem(0, i, 1);
        }
        x.drop(1);
    }

    /** Terms: "and children": those too whose items are nothing or 0, of references and of ints. */
    private static void reachedByChildren() {
        reachedIs("a child without items", 32, x -> {
            x.array(0, 16, true);
            x.putItem(0, 15, 1);
        });
        reachedIs("a child of ints", 32, x -> {
            x.array(0, 225, false);
            x.setItem(0, 224, 0);
        });
        reachedIs("a first child alone", 32, x -> {
            x.array(0, 226, false);
            x.setItem(0, 225, 1);
        });
        reachedIs("children of a child", 64, x -> {
            x.array(0, 3375, false);
            x.setItem(0, 224, 1);
            x.setItem(0, 224, 1);
            x.setItem(0, 0, 1);
        });
        reachedIs("all children of an array", 256, x -> {
            x.array(0, 225, false);
            for (int i = 0; i < 225; i += 15) {
                x.setItem(0, i, 1);
            }
        });
    }

    /** Terms: "REACHED is [..]": what hangs on nothing any more is not, and ints lead nowhere. */
    private static void notReached() {
        reachedIs("a reference was overwritten", 2 + 1, x -> {
            x.make(0, 1, 0);
            x.make(1, 0, 15);
            x.put(0, 0, 1);
            x.make(1, 0, 0);
            x.put(0, 0, 1);
            x.drop(1);
        });
        reachedIs("an item became nothing", 32, x -> {
            itemAlone(x, 16, 15, 2);
            x.putItem(0, 15, 7);
        });
        reachedIs("a ring without a register", 1, x -> {
            x.make(0, 1, 0);
            x.put(0, 0, 0);
            x.make(0, 0, 0);
        });
        reachedIs("ints that could be places", 16 + 16, x -> {
            x.make(0, 0, 15);
            x.array(1, 15, false);
            for (int i = 0; i < 15; i++) {
                x.set(0, i, 1 + i * 16);
                x.setItem(1, i, 2112 - i * 16);
            }
        });
    }

    /** What the test of R does to a heap whose chain of 100 cells, in register 0 alone, is being moved. */
    private static void cutIs(String what, Steps cut) {
        for (int k : new int[] {1, 2, 3}) {
            CountedHeap x = new CountedHeap(1024, k);
            Fill.keep(x, 100);
            Fill.firstCycle(x);
            x.make(7, 1, 0);
            cut.on(x);
            int needed = neededToBeDone(100, k);
            Fill.wasteUntil(x, needed - 1);
            Check.told("Terms, REACHED as it began, " + what + ", a cell less", x, 1, 0, -1, needed - 1);
            x.make(7, 0, 0);
            Check.told("Terms, REACHED as it began, " + what, x, 1, 1, 100, needed);
        }
    }

    /** Terms: "A cycle has R cells that were REACHED as it began": what is cut off behind it counts all the same. */
    private static void reachedIsCountedAsTheCycleBegan() {
        cutIs("nothing was cut", x -> x.drop(6));
        cutIs("the register was dropped", x -> x.drop(0));
        cutIs("the register was changed", x -> x.copy(0, 7));
        cutIs("a reference was overwritten", x -> x.put(0, 0, 7));
        cutIs("a reference became nothing", x -> x.put(0, 0, 6));
        cutIs("all was dropped behind a reference", x -> {
            x.get(1, 0, 0);
            x.get(1, 1, 0);
            x.put(1, 0, 7);
            x.put(0, 0, 7);
            x.drop(0);
            x.drop(1);
        });
        cutIs("a part hangs on what was made", x -> {
            x.get(1, 0, 0);
            x.put(7, 0, 1);
            x.put(0, 0, 6);
            x.copy(0, 7);
            x.drop(1);
        });
        cutIs("the chain was bent to a ring", x -> {
            x.get(1, 0, 0);
            x.put(1, 0, 0);
            x.put(7, 0, 1);
        });
    }

    /** Terms: "MADE cells that were made in it": they are reached only as a later cycle begins. */
    private static void madeInTheCycleIsNotReached() {
        for (int k : new int[] {1, 2, 64}) {
            CountedHeap x = new CountedHeap(1024, k);
            Fill.keep(x, 20);
            Fill.firstCycle(x);
            Fill.lengthen(x, 2);
            Fill.lengthen(x, 3);
            x.drop(1);
            Fill.wasteUntil(x, 20);
            Check.told("Terms, made in the cycle", x, 1, 1, 20, 20);
            Fill.wasteUntil(x, x.told(4) - 20);
            isDoneWith("Terms, made in the cycle before, k " + k, x, 2, k, 25);
        }
    }
}
