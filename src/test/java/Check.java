/** Holds answers against what is due, prints those that differ (of each sentence the first few), and ends a test. */
final class Check {
    private static final int PRINTED_MOST = 8;
    private static int made = 0;
    private static int wrong = 0;
    private static int printed = 0;
    private static int sentences = 0;
    private static String sentence = "";

    private Check() {
    }

    /** A test of one sentence of the document: where it stands, its words, and what must hold for it. */
    static void sentence(String where, String words, Runnable test) {
        int before = made;
        sentence = where + " \"" + words + "\": ";
        sentences++;
        printed = 0;
        test.run();
        due("something was asked", made > before, true);
        sentence = "";
    }

    static void due(String what, long got, long want) {
        due(what, "", got, want);
    }

    static void due(String what, boolean got, boolean want) {
        due(what, "", got ? 1 : 0, want ? 1 : 0);
    }

    /** The two texts are joined only when they are printed, for most answers are as due. */
    static void due(String what, String call, long got, long want) {
        made++;
        if (got != want) {
            wrong++;
            printed++;
            if (printed <= PRINTED_MOST) {
                System.out.println(sentence + what + call + " answered " + got + ", due is " + want);
            }
        }
    }

    static void row(String what, DeltaWindows x, int row, int... want) {
        due(what + ": length(" + row + ")", x.length(row), want.length);
        for (int i = 0; i < want.length; i++) {
            due(what + ": byteAt(" + row + ", " + i + ")", x.byteAt(row, i), want[i]);
        }
    }

    static boolean failed() {
        return wrong != 0;
    }

    static void end() {
        String of = sentences == 0 ? "" : " of " + sentences + " sentences";
        System.out.println(wrong == 0
                ? made + " answers" + of + " are as due"
                : wrong + " of " + made + " answers" + of + " are not as due");
        if (wrong != 0 || made == 0) {
            System.exit(1);
        }
    }
}
