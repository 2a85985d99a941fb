/**
 * A heap of cells that is cleared step by step. The document of the project says what each call answers; README.md
 * says how it is done here.
 */
public final class StepHeap {
    public static final int NONE = -1;

    private static final int REGISTERS = 8;
    private static final int NOTHING = 0;
    private static final int MOST_CELLS = 16;
    private static final int WIDTH = 15;
    private static final int MOST_ITEMS = WIDTH * WIDTH * WIDTH;
    private static final long NO_INT = Long.MIN_VALUE;

    private static final int NO_ROOM = 0;
    private static final int WRITTEN = 1;
    private static final int CHILD_MADE = 2;

    private final Cells cells;
    private final Mover mover;

    public StepHeap(int h, int k) {
        int size = Math.max(1024, Math.min(60000, h));
        int pace = Math.max(1, Math.min(64, k));
        int half = 2 * size + 64;
        mover = new Mover(half, pace, size * pace / (pace + 1));
        cells = mover.cells;
    }

    public int make(int reg, int refs, int ints) {
        if (!isRegister(reg) || !isShape(refs, ints)) {
            return NONE;
        }
        return fillRegister(reg, Head.ofObject(refs, ints));
    }

    public int array(int reg, int length, boolean refs) {
        if (!isRegister(reg) || length < 0 || length > MOST_ITEMS) {
            return NONE;
        }
        return fillRegister(reg, Head.ofArray(length, refs));
    }

    public boolean get(int to, int of, int field) {
        int head = headOf(of);
        if (!isRegister(to) || !isBelow(field, Head.references(head))) {
            return false;
        }
        mover.setRegister(to, mover.follow(referenceCell(of, field)));
        return true;
    }

    public boolean put(int of, int field, int from) {
        int head = headOf(of);
        if (!isRegister(from) || !isBelow(field, Head.references(head))) {
            return false;
        }
        mover.link(referenceCell(of, field), mover.register(from));
        return true;
    }

    public long look(int of, int field) {
        int head = headOf(of);
        if (!isBelow(field, Head.ints(head))) {
            return NO_INT;
        }
        return cells.read(intCell(of, head, field));
    }

    public boolean set(int of, int field, int v) {
        int head = headOf(of);
        if (!isBelow(field, Head.ints(head))) {
            return false;
        }
        cells.write(intCell(of, head, field), v);
        return true;
    }

    public boolean getItem(int to, int of, int i) {
        int head = headOf(of);
        if (!isRegister(to) || !isBelow(i, Head.items(head, true))) {
            return false;
        }
        boolean stands = levelOfGap(of, head, i) == 0;
        mover.setRegister(to, stands ? mover.follow(cellOnWay(of, head, i, 0)) : NOTHING);
        return true;
    }

    public int putItem(int of, int i, int from) {
        int head = headOf(of);
        if (!isRegister(from) || !isBelow(i, Head.items(head, true))) {
            return NONE;
        }
        int answer = openWay(of, head, i);
        if (answer == WRITTEN) {
            mover.link(cellOnWay(of, head, i, 0), mover.register(from));
        }
        return answer;
    }

    public long lookItem(int of, int i) {
        int head = headOf(of);
        if (!isBelow(i, Head.items(head, false))) {
            return NO_INT;
        }
        boolean stands = levelOfGap(of, head, i) == 0;
        return stands ? cells.read(cellOnWay(of, head, i, 0)) : 0;
    }

    public int setItem(int of, int i, int v) {
        int head = headOf(of);
        if (!isBelow(i, Head.items(head, false))) {
            return NONE;
        }
        int answer = openWay(of, head, i);
        if (answer == WRITTEN) {
            cells.write(cellOnWay(of, head, i, 0), v);
        }
        return answer;
    }

    public boolean copy(int to, int from) {
        if (!isRegister(to) || !isRegister(from)) {
            return false;
        }
        mover.setRegister(to, mover.register(from));
        return true;
    }

    public boolean drop(int reg) {
        boolean was = mover.register(reg) != NOTHING;
        mover.setRegister(reg, NOTHING);
        return was;
    }

    public boolean same(int a, int b) {
        // Registers are all moved as a cycle begins, so no object ever has two places among them.
        return isRegister(a) && isRegister(b) && mover.register(a) == mover.register(b);
    }

    public int size(int reg, int what) {
        int head = headOf(reg);
        if (head == NOTHING) {
            return NONE;
        }
        boolean isArray = Head.isArray(head);
        switch (what) {
            case 0:
                return isArray ? -1 : Head.references(head);
            case 1:
                return isArray ? -1 : Head.ints(head);
            case 2:
                return isArray ? Head.length(head) : -1;
            case 3:
                return Head.cells(head);
            default:
                return NONE;
        }
    }

    public int told(int what) {
        switch (what) {
            case 0:
                return mover.begun;
            case 1:
                return mover.isDone() ? 1 : 0;
            case 2:
                return mover.isDone() ? mover.moved() : NONE;
            case 3:
                return mover.made;
            case 4:
                return mover.limit;
            default:
                return NONE;
        }
    }

    public boolean steady() {
        return cells.steady;
    }

    private static boolean isRegister(int reg) {
        return isBelow(reg, REGISTERS);
    }

    private static boolean isBelow(int number, int bound) {
        return number >= 0 && number < bound;
    }

    private static boolean isShape(int refs, int ints) {
        // Each number for itself first: the sum of two large ones would wrap.
        return isBelow(refs, MOST_CELLS) && isBelow(ints, MOST_CELLS) && 1 + refs + ints <= MOST_CELLS;
    }

    private int fillRegister(int reg, int head) {
        cells.startCall();
        if (!mover.hasRoom(Head.cells(head))) {
            return NO_ROOM;
        }
        mover.setRegister(reg, mover.place(head));
        return 1;
    }

    /** The first cell of what a register has; nothing, which has no fields and no items, when there is none. */
    private int headOf(int reg) {
        cells.startCall();
        int place = mover.register(reg);
        return place == NOTHING ? NOTHING : cells.read(place);
    }

    private int referenceCell(int of, int field) {
        return mover.register(of) + 1 + field;
    }

    private int intCell(int of, int head, int field) {
        return mover.register(of) + 1 + Head.references(head) + field;
    }

    /** Makes the first child that is missing on the way to an item, or tells that the item can be written. */
    private int openWay(int of, int head, int i) {
        int level = levelOfGap(of, head, i);
        if (level == 0) {
            return WRITTEN;
        }
        if (!mover.hasRoom(MOST_CELLS)) {
            return NO_ROOM;
        }
        int child = mover.place(Head.ofNode(level > 1 || Head.hasReferenceItems(head)));
        // Only now, as a cycle that began for the child has moved the array.
        mover.link(cellOnWay(of, head, i, level), child);
        return CHILD_MADE;
    }

    /** How far above an item the first child on the way to it is nothing; 0 when none is. */
    private int levelOfGap(int of, int head, int i) {
        int node = mover.register(of);
        for (int level = Head.height(head); level > 0; level--) {
            node = mover.follow(node + 1 + slot(i, level));
            if (node == NOTHING) {
                return level;
            }
        }
        return 0;
    }

    /** The cell at a level of the way to an item (0 is the item's own), when no child above it is nothing. */
    private int cellOnWay(int of, int head, int i, int level) {
        int node = mover.register(of);
        for (int above = Head.height(head); above > level; above--) {
            node = mover.follow(node + 1 + slot(i, above));
        }
        return node + 1 + slot(i, level);
    }

    private static int slot(int i, int level) {
        int child = level == 0 ? i : level == 1 ? i / WIDTH : i / (WIDTH * WIDTH);
        return child % WIDTH;
    }

    /**
     * What the first cell of an object or node tells. It is above 0, so that in the old half a number below 0 can tell
     * where the object was moved to. References stand before ints, so that moving needs to know no kinds.
     */
    private static final class Head {
        private static final int STANDS = 1;
        private static final int TRACED_SHIFT = 1;
        private static final int PLAIN_SHIFT = 5;
        private static final int FIELDS_MASK = 15;
        private static final int ARRAY = 1 << 9;
        private static final int REFERENCE_ITEMS = 1 << 10;
        private static final int LENGTH_SHIFT = 11;

        static int ofObject(int refs, int ints) {
            return STANDS | refs << TRACED_SHIFT | ints << PLAIN_SHIFT;
        }

        static int ofNode(boolean traced) {
            return traced ? ofObject(WIDTH, 0) : ofObject(0, WIDTH);
        }

        static int ofArray(int length, boolean refs) {
            int node = ofNode(refs || length > WIDTH);
            return node | ARRAY | (refs ? REFERENCE_ITEMS : 0) | length << LENGTH_SHIFT;
        }

        /** Cells behind the first that lead to objects or nodes. */
        static int traced(int head) {
            return head >> TRACED_SHIFT & FIELDS_MASK;
        }

        /** Cells behind those, which hold ints. */
        static int plain(int head) {
            return head >> PLAIN_SHIFT & FIELDS_MASK;
        }

        static int cells(int head) {
            return 1 + traced(head) + plain(head);
        }

        static boolean isArray(int head) {
            return (head & ARRAY) != 0;
        }

        static boolean hasReferenceItems(int head) {
            return (head & REFERENCE_ITEMS) != 0;
        }

        static int references(int head) {
            return isArray(head) ? 0 : traced(head);
        }

        static int ints(int head) {
            return isArray(head) ? 0 : plain(head);
        }

        static int length(int head) {
            return head >> LENGTH_SHIFT;
        }

        static int items(int head, boolean refs) {
            return isArray(head) && hasReferenceItems(head) == refs ? length(head) : 0;
        }

        /** How many children lie on the way to an item. */
        static int height(int head) {
            int length = length(head);
            return length > WIDTH * WIDTH ? 2 : length > WIDTH ? 1 : 0;
        }
    }

    /** A part of the cells, made when it is first written: most heaps use few of theirs. */
    private static final class Page {
        private static final int BITS = 10;
        private static final int MASK = (1 << BITS) - 1;

        private final int[] row = new int[1 << BITS];
    }

    /** The cells of both halves, numbered from 1, as 0 is nothing. Each look and each write is counted. */
    private static final class Cells {
        private final Page[] pages;
        private final int last;
        private final int allowed;
        private int touched = 0;
        private boolean steady = true;

        Cells(int last, int allowed) {
            this.last = last;
            this.allowed = allowed;
            pages = new Page[(last >> Page.BITS) + 1];
        }

        void startCall() {
            touched = 0;
        }

        int read(int cell) {
            touch();
            if (cell < 1 || cell > last) {
                return 0;
            }
            Page page = pages[cell >> Page.BITS];
            return page == null ? 0 : page.row[cell & Page.MASK];
        }

        void write(int cell, int value) {
            touch();
            if (cell < 1 || cell > last) {
                return;
            }
            Page page = pages[cell >> Page.BITS];
            if (page == null) {
                page = new Page();
                pages[cell >> Page.BITS] = page;
            }
            page.row[cell & Page.MASK] = value;
        }

        private void touch() {
            touched++;
            if (touched > allowed) {
                steady = false;
            }
        }
    }

    /**
     * The registers, the two halves and the cycles. What was reached as a cycle began is moved to the half in use from
     * its low end on; what is made comes from its high end and is never gone through, as it can only lead to the half
     * in use. By the rule of making, R + made stays below 2 * H + 64, so the two ends never meet.
     */
    private static final class Mover {
        private final Cells cells;
        private final int half;
        private final int k;
        private final int limit;
        private final int[] registers = new int[REGISTERS];

        private int made = 0;
        private int begun = 0;

        private int base;
        private int free;
        private int lowestMade;

        private int scan;
        private int tracedEnd;
        private int nextHead;

        Mover(int half, int k, int limit) {
            cells = new Cells(2 * half, 700 * k + 200);
            this.half = half;
            this.k = k;
            this.limit = limit;
            useHalf(1);
        }

        int register(int reg) {
            return isRegister(reg) ? registers[reg] : NOTHING;
        }

        void setRegister(int reg, int place) {
            if (isRegister(reg)) {
                registers[reg] = place;
            }
        }

        /** Cells moved so far in the cycle: R when all of them have been gone through. */
        int moved() {
            return free - base;
        }

        /** While cells are left to go through, R is above k * made, as work() sees to. */
        boolean isDone() {
            return scan == free && k * made >= moved();
        }

        /** The rule of making, for n cells. It may begin a cycle, which moves what the registers have. */
        boolean hasRoom(int n) {
            if (!isDone()) {
                return true;
            }
            if (moved() > limit) {
                return false;
            }
            if (moved() + made + n > limit) {
                beginCycle();
            }
            return true;
        }

        /** Makes an object or node of nothing and zeros; the old cells there may hold anything. */
        int place(int head) {
            int n = Head.cells(head);
            lowestMade -= n;
            cells.write(lowestMade, head);
            for (int i = 1; i < n; i++) {
                cells.write(lowestMade + i, NOTHING);
            }
            made += n;
            work();
            return lowestMade;
        }

        /** What a cell leads to, in the half in use. The cell is left as it is: work() will come to it. */
        int follow(int cell) {
            return placeInUse(cells.read(cell));
        }

        void link(int cell, int place) {
            // What the cell led to was reached as the cycle began: R has it, though this may be the last way to it.
            follow(cell);
            cells.write(cell, place);
        }

        private void useHalf(int first) {
            base = first;
            free = first;
            lowestMade = first + half;
            scan = first;
            tracedEnd = first;
            nextHead = first;
        }

        private void beginCycle() {
            useHalf(base == 1 ? 1 + half : 1);
            made = 0;
            begun++;
            for (int i = 0; i < registers.length; i++) {
                registers[i] = placeInUse(registers[i]);
            }
        }

        private boolean isOld(int place) {
            return place != NOTHING && (place < base || place >= base + half);
        }

        /** Where an object or node stands in the half in use; it is moved there if it does not yet. */
        private int placeInUse(int place) {
            if (!isOld(place)) {
                return place;
            }
            int head = cells.read(place);
            if (head < 0) {
                return -head;
            }
            int to = free;
            int n = Head.cells(head);
            cells.write(to, head);
            for (int i = 1; i < n; i++) {
                cells.write(to + i, cells.read(place + i));
            }
            cells.write(place, -to);
            free += n;
            return to;
        }

        /**
         * Goes on through the moved cells, one by one and not object by object, as a cell may cost the move of 16 more.
         * It ends with all of them gone through, so that R is known, or with k * made of them and some left, so that R
         * is above k * made.
         */
        private void work() {
            int goal = base + k * made;
            for (int turn = 0; turn < k * MOST_CELLS && scan < free && scan < goal; turn++) {
                int word = cells.read(scan);
                if (scan == nextHead) {
                    tracedEnd = scan + 1 + Head.traced(word);
                    nextHead = scan + Head.cells(word);
                } else {
                    int now = placeInUse(word);
                    if (now != word) {
                        cells.write(scan, now);
                    }
                }
                scan++;
                if (scan == tracedEnd) {
                    scan = nextHead;
                }
            }
        }
    }
}
