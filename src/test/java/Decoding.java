/** Decodes deltas at the end of a story that has encoded and decoded before, so that a refused one has something to leave. */
final class Decoding {
    private static final int[] OUTPUT_BEFORE = Rows.text("cdefgXabcdYYYYYdefghZcdefg");

    private Decoding() {
    }

    static Story before(String what, int[] source, int[] delta) {
        return Stories.agreeing().again(what).fill(Rows.SOURCE, source).fill(Rows.DELTA, delta);
    }

    /** Well formed, and as long as the bound just allows. Answers the story behind the decode. */
    static Story good(String what, int[] source, int[] delta, int... output) {
        Story story = before(what, source, delta).then(Call.decode(output.length), output.length);
        return story.row(Rows.OUTPUT, output).row(Rows.SOURCE, source).row(Rows.DELTA, delta).row(Rows.TARGET, OUTPUT_BEFORE)
                .due(Call.agrees(), java.util.Arrays.equals(output, OUTPUT_BEFORE));
    }

    static void ill(String what, int[] source, int[] delta) {
        ill(what, source, delta, 400);
    }

    static void ill(String what, int[] source, int[] delta, int bound) {
        before(what, source, delta).refuses(Call.decode(bound), DeltaWindows.ILLFORMED);
    }

    static void tooLong(String what, int[] source, int[] delta, int bound) {
        before(what, source, delta).refuses(Call.decode(bound), DeltaWindows.TOOLONG);
    }
}
