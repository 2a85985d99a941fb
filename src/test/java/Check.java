/** Counts the answers that are not as due; a test ends with them. */
final class Check {
    private static final int MOST_PRINTED = 40;
    private static int checked = 0;
    private static int wrong = 0;

    private Check() {
    }

    static void due(String what, long got, long want) {
        checked++;
        if (got != want) {
            wrong++;
            if (wrong <= MOST_PRINTED) {
                System.out.println(what + " answered " + got + ", due is " + want);
            }
        }
    }

    static void due(String what, boolean got, boolean want) {
        due(what, got ? 1 : 0, want ? 1 : 0);
    }

    /** What a register is nothing of has no cells. */
    static void isNothing(String what, CountedHeap x, int reg) {
        due(what + ": register " + reg + " is nothing, size(.., 3)", x.size(reg, 3), -1);
    }

    /** told(0) to told(3). */
    static void told(String what, CountedHeap x, int begun, int done, int reached, int made) {
        due(what + ", told(0)", x.told(0), begun);
        due(what + ", told(1)", x.told(1), done);
        due(what + ", told(2)", x.told(2), reached);
        due(what + ", told(3)", x.told(3), made);
    }

    static boolean allAsDue() {
        return wrong == 0;
    }

    static void end() {
        System.out.println(checked + " answers, " + wrong + " not as due");
        if (wrong != 0) {
            System.exit(1);
        }
    }
}
