import java.util.Random;

/**
 * Rule 7 of LANGUAGE.md: "No call may ever throw by itself [..] or fail to end, for any arguments in any state": so it
 * is behind the 512th call too. The document leaves free what is answered there, so no answer is compared here; what a
 * call throws ends the test.
 */
public final class LaterCallsTest {
    private static final int[] ODD = {Integer.MIN_VALUE, -1, 8, 15, 16, 3375, 3376, Integer.MAX_VALUE};
    private static final int HEAPS = 60;
    private static final int CALLS = 20000;

    private final Random random;
    private final StepHeap heap;
    private int calls = 0;

    private LaterCallsTest(int seed) {
        random = new Random(seed);
        heap = new StepHeap(seed % 5 * 700, 1 + seed % 7);
    }

    public static void main(String[] args) {
        for (int seed = 0; seed < HEAPS; seed++) {
            Check.due("heap " + seed + ": calls that ended", new LaterCallsTest(seed).run(), CALLS);
        }
        Check.end();
    }

    private int run() {
        while (calls < CALLS) {
            ask(random.nextInt(20));
            calls++;
        }
        return calls;
    }

    private int reg() {
        return random.nextInt(40) == 0 ? oddNumber() : random.nextInt(8);
    }

    private int number(int bound) {
        return random.nextInt(40) == 0 ? oddNumber() : random.nextInt(bound);
    }

    private int oddNumber() {
        return ODD[random.nextInt(ODD.length)];
    }

    private void ask(int call) {
        switch (call) {
            case 0:
                heap.array(reg(), number(3376), random.nextInt(3) > 0);
                break;
            case 1:
                heap.get(reg(), reg(), number(15));
                break;
            case 2:
            case 3:
                heap.put(reg(), number(15), reg());
                break;
            case 4:
                heap.look(reg(), number(15));
                break;
            case 5:
                heap.set(reg(), number(15), random.nextInt());
                break;
            case 6:
                heap.getItem(reg(), reg(), number(3375));
                break;
            case 7:
            case 8:
                heap.putItem(reg(), number(3375), reg());
                break;
            case 9:
                heap.lookItem(reg(), number(3375));
                break;
            case 10:
                heap.setItem(reg(), number(3375), random.nextInt());
                break;
            default:
                askOfRegisters(call);
        }
    }

    private void askOfRegisters(int call) {
        switch (call) {
            case 11:
                heap.copy(reg(), reg());
                break;
            case 12:
                heap.drop(reg());
                break;
            case 13:
                heap.same(reg(), reg());
                heap.size(reg(), number(4));
                break;
            case 14:
                heap.told(number(5));
                heap.steady();
                break;
            default:
                heap.make(reg(), number(9), number(8));
        }
    }
}
