/** Terms: the rows, how many bytes each has at most, and calls that are refused. */
public final class TermsRowsTest {
    private static final String WHERE = "Terms, rows";
    private static final int BAD = DeltaWindows.BAD;

    public static void main(String[] args) {
        Check.sentence(WHERE, "SOURCE (at most 48 bytes)", () -> most(0, 48));
        Check.sentence(WHERE, "TARGET (at most 64)", () -> most(1, 64));
        Check.sentence(WHERE, "DELTA (at most 1000)", () -> most(2, 1000));
        Check.sentence(WHERE + ", decoded", "DELTA (at most 1000)", TermsRowsTest::greatestDelta);
        Check.sentence(WHERE, "OUTPUT (at most 400)", TermsRowsTest::greatestOutput);
        Check.sentence(WHERE, "all empty at first", TermsRowsTest::emptyAtFirst);
        Check.sentence(WHERE, "rows 0, 1, 2, 3", TermsRowsTest::whichRowIsWhich);
        Check.sentence(WHERE, "Bytes are 0 .. 255.", TermsRowsTest::bytes);
        Check.sentence("Terms, the last line", "A call that answers false or less than 0 changes nothing.", TermsRowsTest::refused);
        Check.sentence("Terms, the last line", "There is no row but 0 .. 3.", TermsRowsTest::noOtherRow);
        Check.end();
    }

    private static void most(int row, int most) {
        Story less = new Story("one less").put(row, Rows.same(7, most - 1));
        less.refuses(Call.put(row, 8, 2)).due(Call.length(row), most - 1).due(Call.byteAt(row, most - 1), BAD);
        Story full = less.then(Call.put(row, 8, 1), true);
        full.row(row, Rows.join(Rows.same(7, most - 1), Rows.of(8)));
        full.refuses(Call.put(row, 9, 1)).refuses(Call.set(row, most, 9)).refuses(Call.cut(row, most + 1));
        full.due(Call.set(row, most - 1, 9), true).due(Call.cut(row, most), true);
    }

    /** All of its 1000 bytes are read: it is ill formed when the last one is missing or is another. */
    private static void greatestDelta() {
        Story story = new Story("a delta of 1000").put(2, Stories.greatDelta());
        story.due(Call.length(2), 1000).due(Call.decode(400), 400);
        story.again().then(Call.set(2, 999, 72), true).refuses(Call.decode(400), DeltaWindows.ILLFORMED);
        story.again().then(Call.set(2, 999, 74), true).refuses(Call.decode(400), DeltaWindows.ILLFORMED);
        story.again().then(Call.cut(2, 999), true).refuses(Call.decode(400), DeltaWindows.ILLFORMED);
        story.refuses(Call.put(2, 0, 1));
    }

    private static void greatestOutput() {
        Story full = Stories.full();
        full.row(3, Rows.join(Rows.same(3, 327), Rows.same(4, 73)));
        full.refuses(Call.decode(401), BAD).refuses(Call.decode(399), DeltaWindows.TOOLONG);
        int[] most = new Window(400).data(5).codes(0, 131, 16).bytes();
        int[] one = new Window(1).data(6).codes(2).bytes();
        int[] more = new Window(401).data(5).codes(0, 131, 17).bytes();
        Decoding.good("400 in one window", Rows.of(), Rows.delta(most), Rows.same(5, 400));
        Decoding.tooLong("401 in one window", Rows.of(), Rows.delta(more), 400);
        Decoding.tooLong("400 and one more", Rows.of(), Rows.delta(most, one), 400);
        int[] less = new Window(399).data(5).codes(0, 131, 15).bytes();
        Decoding.good("399 and one more", Rows.of(), Rows.delta(less, one), Rows.join(Rows.same(5, 399), Rows.of(6)));
    }

    private static void emptyAtFirst() {
        for (int row = 0; row < 4; row++) {
            Stories.fresh().row(row).due(Call.byteAt(row, 0), BAD);
        }
        Stories.fresh().then(Call.encode(64), 5).row(2, Rows.HEAD);
        Stories.fresh().refuses(Call.decode(400), DeltaWindows.ILLFORMED);
    }

    private static void whichRowIsWhich() {
        int[] source = Rows.text("-abcd");
        int[] target = Rows.text("abcd");
        int[] delta = Rows.delta(new Window(4).from(1, 5, 0).codes(20).addresses(1).bytes());
        Story story = new Story("each row has its part").put(0, source).put(1, target).then(Call.encode(64), delta.length);
        story.row(0, source).row(1, target).row(2, delta).row(3);
        story.then(Call.decode(4), 4).row(0, source).row(1, target).row(2, delta).row(3, target);
    }

    /** The least and the greatest byte go through all kinds of instructions. */
    private static void bytes() {
        int[] source = {0, 255, 0, 255, 255, 0};
        for (int row = 0; row < 3; row++) {
            new Story("put").put(row, source).row(row, source);
        }
        int[] target = Rows.join(Rows.same(0, 5), Rows.same(255, 6), Rows.of(0, 255, 0, 255, 255, 0), Rows.of(254, 1));
        Story story = new Story("encoded and decoded").put(0, source).put(1, target);
        int[] window = new Window(19).from(1, 6, 0).data(0, 255, 254, 1).codes(0, 5, 0, 6, 115 + 3, 3).addresses(0).bytes();
        story.then(Call.encode(64), 5 + window.length).row(2, Rows.delta(window));
        story.then(Call.decode(19), 19).row(3, target).due(Call.agrees(), true);
    }

    private static void refused() {
        for (Story story : Stories.all()) {
            story.refuses(Call.put(0, 256, 1)).refuses(Call.put(1, 1, 17)).refuses(Call.put(2, 1, 0)).refuses(Call.put(3, 1, 1));
            story.refuses(Call.cut(0, 49)).refuses(Call.cut(1, 65)).refuses(Call.cut(2, 1001)).refuses(Call.cut(3, 0));
            story.refuses(Call.set(0, 48, 1)).refuses(Call.set(1, 64, 1)).refuses(Call.set(2, 1000, 1)).refuses(Call.set(3, 0, 1));
            story.refuses(Call.encode(0), BAD).refuses(Call.encode(65), BAD);
            story.refuses(Call.decode(-1), BAD).refuses(Call.decode(401), BAD);
            story.refuses(Call.length(4), BAD).refuses(Call.byteAt(3, 400), BAD).refuses(Call.code(256, 0), BAD);
            story.refuses(Call.cache(2, 0), BAD).refuses(Call.cache(1, 772), BAD);
            Story ill = story.again().then(Call.cut(2, 0), true).put(2, Rows.of(214, 195, 196, 0, 1));
            ill.refuses(Call.decode(400), DeltaWindows.ILLFORMED);
            int[] good = new Window(5).data(9).codes(163).addresses(0).bytes();
            Story late = story.again().fill(2, Rows.delta(good, new Window(1).bytes()));
            late.refuses(Call.decode(400), DeltaWindows.ILLFORMED);
            late.refuses(Call.decode(5), DeltaWindows.TOOLONG).refuses(Call.decode(4), DeltaWindows.TOOLONG);
        }
    }

    private static void noOtherRow() {
        for (Story story : Stories.all()) {
            for (int row : new int[] {-1, 4, -4, 5, Integer.MIN_VALUE, Integer.MAX_VALUE}) {
                story.refuses(Call.put(row, 1, 1)).refuses(Call.cut(row, 0)).refuses(Call.set(row, 0, 1));
                story.refuses(Call.length(row), BAD).refuses(Call.byteAt(row, 0), BAD);
            }
        }
        for (int row = 0; row < 4; row++) {
            Stories.full().due(Call.length(row), Stories.lengths()[3][row]);
        }
    }
}
