import java.util.Random;

/**
 * Runs of random calls, the same each time, on a StepHeap and on a PlainHeap: every answer must be the same. Each run
 * has as many calls as the document promises answers.
 */
public final class RandomRunsTest {
    private static final int[] SIZES = {Integer.MIN_VALUE, 0, 1024, 1025, 1100, 1500, 2048, 4096, 9000, 60000, 70000};
    private static final int[] PACES = {-1, 0, 1, 1, 1, 2, 2, 3, 4, 7, 16, 63, 64, 65};
    private static final int[] LENGTHS = {0, 1, 14, 15, 16, 30, 224, 225, 226, 450, 3374, 3375};
    private static final int[] ODD = {Integer.MIN_VALUE, -2, -1, 8, 9, 15, 16, 3375, 3376, Integer.MAX_VALUE};

    private static final int RUNS = 40000;
    private static final int TOLD = 6;
    private static final int MOST_CALLS_OF_A_STEP = 20;

    private static int cyclesBegun = 0;
    private static int noRoom = 0;

    private final Random random;
    private final CountedHeap heap;
    private final PlainHeap plain;
    private final String name;
    /** Percent of the calls that make something; of the arguments that are odd; of the objects that are large. */
    private final int making;
    private final int odd;
    private final int large;
    /** What is kept hangs on register 0, which nothing else changes then: so R comes above LIMIT. */
    private final int keeping;
    private int step = 0;

    private RandomRunsTest(int seed) {
        random = new Random(seed);
        int h = SIZES[random.nextInt(seed % 8 == 0 ? SIZES.length : 6)];
        int k = PACES[random.nextInt(PACES.length)];
        heap = new CountedHeap(h, k);
        plain = new PlainHeap(h, k);
        name = "seed " + seed + " (" + h + ", " + k + ")";
        making = 20 + random.nextInt(75);
        odd = random.nextInt(4) * 2;
        large = random.nextInt(101);
        keeping = seed % 3 == 0 ? 20 + random.nextInt(80) : 0;
    }

    public static void main(String[] args) {
        for (int seed = 0; seed < RUNS && Check.allAsDue(); seed++) {
            new RandomRunsTest(seed).run();
        }
        System.out.println(cyclesBegun + " cycles began, " + noRoom + " times there was no room");
        Check.due("enough cycles began", cyclesBegun > RUNS, true);
        Check.due("often enough there was no room", noRoom > RUNS / 4, true);
        Check.end();
    }

    private void run() {
        while (heap.callsLeft() > MOST_CALLS_OF_A_STEP + TOLD && Check.allAsDue()) {
            step++;
            if (random.nextInt(100) < keeping) {
                keepSomething();
            } else if (random.nextInt(100) < making) {
                makeSomething();
            } else {
                useSomething();
            }
            compareTold(random.nextInt(TOLD));
        }
        for (int what = 0; what < TOLD; what++) {
            compareTold(what);
        }
        cyclesBegun += plain.told(0);
    }

    private void due(String call, long got, long want) {
        Check.due(name + ", step " + step + ": " + call, got, want);
    }

    private void due(String call, boolean got, long want) {
        due(call, got ? 1L : 0L, want);
    }

    /** One of them at a time, as calls are few. */
    private void compareTold(int what) {
        if (what == 5) {
            due("steady()", heap.steady(), 1);
        } else {
            due("told(" + what + ")", heap.told(what), plain.told(what));
        }
    }

    private boolean isOdd() {
        return random.nextInt(100) < odd;
    }

    private int pickFrom(int[] row) {
        return row[random.nextInt(row.length)];
    }

    private int reg() {
        return isOdd() ? pickFrom(ODD) : random.nextInt(8);
    }

    private int target() {
        return keeping > 0 ? 1 + random.nextInt(7) : reg();
    }

    /** Mostly one that there is. */
    private int field(int reg, int what) {
        long count = plain.size(reg, what);
        return isOdd() || count <= 0 ? pickFrom(ODD) : random.nextInt((int) count);
    }

    private int value() {
        return random.nextInt(8) == 0 ? pickFrom(ODD) : random.nextInt();
    }

    private void makeSomething() {
        int reg = target();
        long answer;
        if (random.nextInt(6) == 0) {
            int length = isOdd() ? pickFrom(ODD) : pickFrom(LENGTHS);
            boolean refs = random.nextInt(3) > 0;
            answer = plain.array(reg, length, refs);
            due("array(" + reg + ", " + length + ", " + refs + ")", heap.array(reg, length, refs), answer);
        } else {
            boolean full = random.nextInt(100) < large;
            int refs = isOdd() ? pickFrom(ODD) : full ? 15 - random.nextInt(2) : random.nextInt(9);
            int ints = isOdd() ? pickFrom(ODD) : full ? random.nextInt(2) : random.nextInt(9);
            answer = plain.make(reg, refs, ints);
            due("make(" + reg + ", " + refs + ", " + ints + ")", heap.make(reg, refs, ints), answer);
        }
        noRoom += answer == 0 ? 1 : 0;
        if (random.nextInt(3) > 0) {
            putSomewhere(reg);
        }
    }

    private void keepSomething() {
        if (random.nextInt(8) == 0) {
            due("array(1, 450, true)", heap.array(1, 450, true), plain.array(1, 450, true));
            int i = random.nextInt(450);
            for (int times = 0; times < 3; times++) {
                due("putItem(1, " + i + ", 0)", heap.putItem(1, i, 0), plain.putItem(1, i, 0));
            }
        } else {
            int ints = 10 - random.nextInt(11) * random.nextInt(2);
            due("make(1, 5, " + ints + ")", heap.make(1, 5, ints), plain.make(1, 5, ints));
            due("put(1, 4, 0)", heap.put(1, 4, 0), plain.put(1, 4, 0));
        }
        due("copy(0, 1)", heap.copy(0, 1), plain.copy(0, 1));
    }

    private void putSomewhere(int from) {
        int of = reg();
        if (plain.size(of, 2) >= 0) {
            int i = field(of, 2);
            due("putItem(" + of + ", " + i + ", " + from + ")", heap.putItem(of, i, from), plain.putItem(of, i, from));
        } else {
            int field = field(of, 0);
            due("put(" + of + ", " + field + ", " + from + ")", heap.put(of, field, from), plain.put(of, field, from));
        }
    }

    private void useSomething() {
        int a = target();
        int b = reg();
        int what = random.nextInt(7) - 1;
        int v = value();
        switch (random.nextInt(14)) {
            case 0:
            case 1:
                putSomewhere(b);
                break;
            case 2:
            case 3:
                getSomething(a, b);
                break;
            case 4:
                lookAtAll(a);
                break;
            case 5:
                setField(a, field(a, 1), v);
                break;
            case 6:
                lookAt(a, field(a, 2));
                break;
            case 7:
            case 8:
                setAt(a, field(a, 2), v);
                break;
            case 9:
                due("copy(" + a + ", " + b + ")", heap.copy(a, b), plain.copy(a, b));
                break;
            case 10:
                due("drop(" + a + ")", heap.drop(a), plain.drop(a));
                break;
            case 11:
                due("same(" + a + ", " + b + ")", heap.same(a, b), plain.same(a, b));
                break;
            case 12:
                due("size(" + a + ", " + what + ")", heap.size(a, what), plain.size(a, what));
                break;
            default:
                compareAll(a);
        }
    }

    /** Every int of an object, as one alone would seldom be one that was set. */
    private void lookAtAll(int of) {
        for (int field = -1; field <= 16; field++) {
            due("look(" + of + ", " + field + ")", heap.look(of, field), plain.look(of, field));
        }
    }

    private void getSomething(int to, int of) {
        if (plain.size(of, 2) >= 0) {
            int i = field(of, 2);
            due("getItem(" + to + ", " + of + ", " + i + ")", heap.getItem(to, of, i), plain.getItem(to, of, i));
        } else {
            int field = field(of, 0);
            due("get(" + to + ", " + of + ", " + field + ")", heap.get(to, of, field), plain.get(to, of, field));
        }
    }

    private void setField(int of, int field, int v) {
        due("set(" + of + ", " + field + ", " + v + ")", heap.set(of, field, v), plain.set(of, field, v));
    }

    private void lookAt(int of, int i) {
        due("lookItem(" + of + ", " + i + ")", heap.lookItem(of, i), plain.lookItem(of, i));
    }

    private void setAt(int of, int i, int v) {
        due("setItem(" + of + ", " + i + ", " + v + ")", heap.setItem(of, i, v), plain.setItem(of, i, v));
    }

    private void compareAll(int of) {
        for (int what = 0; what <= 3; what++) {
            due("size(" + of + ", " + what + ")", heap.size(of, what), plain.size(of, what));
        }
        long length = plain.size(of, 2);
        for (int times = 0; times < 15 && length > 0; times++) {
            lookAt(of, random.nextInt((int) length));
        }
    }
}
