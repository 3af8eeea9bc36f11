/** Holds answers against what is due, prints those that differ, and ends a test. */
final class Check {
    private static final int PRINTED_MOST = 40;
    private static int made = 0;
    private static int wrong = 0;

    private Check() {
    }

    static void due(String what, long got, long want) {
        made++;
        if (got != want) {
            wrong++;
            if (wrong <= PRINTED_MOST) {
                System.out.println(what + " answered " + got + ", due is " + want);
            }
        }
    }

    static void due(String what, boolean got, boolean want) {
        due(what, got ? 1 : 0, want ? 1 : 0);
    }

    static void row(String what, DeltaWindows x, int row, int... want) {
        due(what + ": length(" + row + ")", x.length(row), want.length);
        for (int i = 0; i < want.length; i++) {
            due(what + ": byteAt(" + row + ", " + i + ")", x.byteAt(row, i), want[i]);
        }
    }

    static boolean failed() {
        return wrong != 0;
    }

    static void end() {
        System.out.println(wrong == 0 ? made + " answers are as due" : wrong + " of " + made + " answers are not as due");
        if (wrong != 0 || made == 0) {
            System.exit(1);
        }
    }
}
