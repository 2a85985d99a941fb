import java.util.ArrayDeque;
import java.util.Collections;
import java.util.Deque;
import java.util.IdentityHashMap;
import java.util.Set;

/**
 * The document's rules over Java's own objects, without cells and halves: what is reached is counted whole as a cycle
 * begins. Answers are longs, a boolean counts 1 or 0.
 */
final class PlainHeap {
    private static final long NONE = -1;

    private static final class Thing {
        Thing[] refs = new Thing[0];
        int[] ints = new int[0];
        boolean isArray;
        boolean hasReferenceItems;
        int length;
        Thing[] things;
        int[] numbers;
        boolean[] innerMade = new boolean[15];
        boolean[] leafMade = new boolean[225];
        int cells;
    }

    private final Thing[] registers = new Thing[8];
    private final long k;
    private final long limit;
    private long reached = 0;
    private long made = 0;
    private long begun = 0;

    PlainHeap(int h, int k) {
        long size = h < 1024 ? 1024 : h > 60000 ? 60000 : h;
        this.k = k < 1 ? 1 : k > 64 ? 64 : k;
        limit = size * this.k / (this.k + 1);
    }

    private static boolean isRegister(int reg) {
        return reg >= 0 && reg <= 7;
    }

    private Thing thing(int reg) {
        return isRegister(reg) ? registers[reg] : null;
    }

    private boolean isDone() {
        return k * made >= reached;
    }

    private boolean spend(int n) {
        if (isDone() && reached > limit) {
            return false;
        }
        if (isDone() && reached + made + n > limit) {
            reached = countReached();
            made = 0;
            begun++;
        }
        made += n;
        return true;
    }

    private long countReached() {
        Set<Thing> seen = Collections.newSetFromMap(new IdentityHashMap<>());
        Deque<Thing> open = new ArrayDeque<>();
        for (Thing t : registers) {
            visit(t, seen, open);
        }
        long cells = 0;
        while (!open.isEmpty()) {
            Thing t = open.pop();
            cells += t.cells;
            for (Thing r : t.refs) {
                visit(r, seen, open);
            }
            if (t.things != null) {
                for (Thing r : t.things) {
                    visit(r, seen, open);
                }
            }
        }
        return cells;
    }

    private static void visit(Thing t, Set<Thing> seen, Deque<Thing> open) {
        if (t != null && seen.add(t)) {
            open.push(t);
        }
    }

    long make(int reg, int refs, int ints) {
        if (!isRegister(reg) || refs < 0 || ints < 0 || 1L + refs + ints > 16) {
            return NONE;
        }
        if (!spend(1 + refs + ints)) {
            return 0;
        }
        Thing t = new Thing();
        t.refs = new Thing[refs];
        t.ints = new int[ints];
        t.cells = 1 + refs + ints;
        registers[reg] = t;
        return 1;
    }

    long array(int reg, int length, boolean refs) {
        if (!isRegister(reg) || length < 0 || length > 3375) {
            return NONE;
        }
        if (!spend(16)) {
            return 0;
        }
        Thing t = new Thing();
        t.isArray = true;
        t.hasReferenceItems = refs;
        t.length = length;
        t.things = refs ? new Thing[length] : null;
        t.numbers = refs ? null : new int[length];
        t.cells = 16;
        registers[reg] = t;
        return 1;
    }

    private static boolean hasReference(Thing t, int field) {
        return t != null && !t.isArray && field >= 0 && field < t.refs.length;
    }

    private static boolean hasInt(Thing t, int field) {
        return t != null && !t.isArray && field >= 0 && field < t.ints.length;
    }

    private static boolean hasItem(Thing t, int i, boolean refs) {
        return t != null && t.isArray && t.hasReferenceItems == refs && i >= 0 && i < t.length;
    }

    long get(int to, int of, int field) {
        if (!isRegister(to) || !hasReference(thing(of), field)) {
            return 0;
        }
        registers[to] = thing(of).refs[field];
        return 1;
    }

    long put(int of, int field, int from) {
        if (!isRegister(from) || !hasReference(thing(of), field)) {
            return 0;
        }
        thing(of).refs[field] = registers[from];
        return 1;
    }

    long look(int of, int field) {
        return hasInt(thing(of), field) ? thing(of).ints[field] : Long.MIN_VALUE;
    }

    long set(int of, int field, int v) {
        if (!hasInt(thing(of), field)) {
            return 0;
        }
        thing(of).ints[field] = v;
        return 1;
    }

    long getItem(int to, int of, int i) {
        if (!isRegister(to) || !hasItem(thing(of), i, true)) {
            return 0;
        }
        registers[to] = thing(of).things[i];
        return 1;
    }

    /** 1 when every child on the way to the item stands. */
    private long open(Thing t, int i) {
        if (t.length > 225 && !t.innerMade[i / 225]) {
            return grow(t, t.innerMade, i / 225);
        }
        if (t.length > 15 && !t.leafMade[i / 15]) {
            return grow(t, t.leafMade, i / 15);
        }
        return 1;
    }

    private long grow(Thing t, boolean[] children, int child) {
        if (!spend(16)) {
            return 0;
        }
        children[child] = true;
        t.cells += 16;
        return 2;
    }

    long putItem(int of, int i, int from) {
        if (!isRegister(from) || !hasItem(thing(of), i, true)) {
            return NONE;
        }
        long answer = open(thing(of), i);
        if (answer == 1) {
            thing(of).things[i] = registers[from];
        }
        return answer;
    }

    long lookItem(int of, int i) {
        return hasItem(thing(of), i, false) ? thing(of).numbers[i] : Long.MIN_VALUE;
    }

    long setItem(int of, int i, int v) {
        if (!hasItem(thing(of), i, false)) {
            return NONE;
        }
        long answer = open(thing(of), i);
        if (answer == 1) {
            thing(of).numbers[i] = v;
        }
        return answer;
    }

    long copy(int to, int from) {
        if (!isRegister(to) || !isRegister(from)) {
            return 0;
        }
        registers[to] = registers[from];
        return 1;
    }

    long drop(int reg) {
        if (thing(reg) == null) {
            return 0;
        }
        registers[reg] = null;
        return 1;
    }

    long same(int a, int b) {
        return isRegister(a) && isRegister(b) && registers[a] == registers[b] ? 1 : 0;
    }

    long size(int reg, int what) {
        Thing t = thing(reg);
        if (t == null) {
            return NONE;
        }
        switch (what) {
            case 0:
                return t.isArray ? -1 : t.refs.length;
            case 1:
                return t.isArray ? -1 : t.ints.length;
            case 2:
                return t.isArray ? t.length : -1;
            case 3:
                return t.isArray ? 16 : t.cells;
            default:
                return NONE;
        }
    }

    long told(int what) {
        switch (what) {
            case 0:
                return begun;
            case 1:
                return isDone() ? 1 : 0;
            case 2:
                return isDone() ? reached : NONE;
            case 3:
                return made;
            case 4:
                return limit;
            default:
                return NONE;
        }
    }
}
