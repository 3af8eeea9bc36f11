/** Promise 5: encode, its argument and its answer; what it writes is in TermsEncodeTest. */
public final class Promise05EncodeTest {
    private static final String WHERE = "Promise 5";
    private static final int[] SOURCE = Rows.text("-abcdef");
    private static final int[] TARGET = Rows.text("abcdXbcdefYYYY");

    public static void main(String[] args) {
        Check.sentence(WHERE, "Encodes the target in pieces of w bytes.", Promise05EncodeTest::pieces);
        Check.sentence(WHERE, "Answers the length of the delta.", Promise05EncodeTest::answers);
        Check.sentence(WHERE, "BAD when w is not 1 .. 64.", Promise05EncodeTest::wrongPieces);
        Check.sentence(WHERE + ", what it leaves alone", "encode", Promise05EncodeTest::leavesAlone);
        Check.end();
    }

    private static int[] add(int... data) {
        return new Window(data.length).from(1, 7, 0).data(data).codes(1 + data.length).bytes();
    }

    /** The least w, one between, and the greatest. */
    private static void pieces() {
        Story story = new Story("pieces").put(0, SOURCE).put(1, TARGET);
        int[][] ones = new int[TARGET.length][];
        for (int k = 0; k < TARGET.length; k++) {
            ones[k] = add(TARGET[k]);
        }
        story.again().then(Call.encode(1), 5 + 14 * 11).row(2, Rows.delta(ones));
        int[] first = new Window(5).from(1, 7, 0).data('X').codes(247).addresses(1).bytes();
        int[] second = new Window(5).from(1, 7, 0).codes(21).addresses(2).bytes();
        int[] third = new Window(4).from(1, 7, 0).data('Y').codes(0, 4).bytes();
        story.again().then(Call.encode(5), 5 + first.length + second.length + third.length).row(2, Rows.delta(first, second, third));
        int[] whole = new Window(14).from(1, 7, 0).data('X', 'Y').codes(247, 53, 0, 4).addresses(1, 1).bytes();
        story.again().then(Call.encode(14), 5 + whole.length).row(2, Rows.delta(whole));
        story.again().then(Call.encode(64), 5 + whole.length).row(2, Rows.delta(whole));
    }

    private static void answers() {
        Stories.fresh().due(Call.encode(1), 5).due(Call.encode(64), 5);
        Stories.full().then(Call.encode(64), 17).due(Call.length(2), 17);
        Story longest = new Story("the longest").put(0, Rows.up(0, 48)).put(1, Rows.up(100, 64));
        longest.then(Call.encode(1), 5 + 64 * 11).due(Call.length(2), 709).due(Call.byteAt(2, 708), 2).due(Call.byteAt(2, 709), DeltaWindows.BAD);
        longest.then(Call.decode(64), 64).due(Call.agrees(), true).due(Call.windows(), 64);
        longest.then(Call.encode(64), 5 + 3 + 1 + 5 + 64 + 2).due(Call.length(2), 80);
        longest.then(Call.encode(64), 80).due(Call.length(2), 80);
        new Story("a delta of which nothing is kept").put(2, Rows.same(9, 1000)).put(1, 7).then(Call.encode(1), 14)
                .row(2, Rows.delta(new Window(1).data(7).codes(2).bytes()));
    }

    private static void wrongPieces() {
        for (Story story : Stories.all()) {
            for (int w : new int[] {0, -1, 65, -64, Integer.MIN_VALUE, Integer.MAX_VALUE}) {
                story.refuses(Call.encode(w), DeltaWindows.BAD);
            }
        }
        Story story = new Story("those just within").put(0, SOURCE).put(1, TARGET);
        story.due(Call.encode(1), 5 + 14 * 11).due(Call.encode(64), 5 + 3 + 1 + 5 + 8);
    }

    private static void leavesAlone() {
        Story story = Stories.agreeing().then(Call.put(1, 'c', 1), true).then(Call.encode(2), 5 + 13 * 12 + 11);
        story.row(0, Rows.text("abcdefghijkl")).row(1, Rows.text("cdefgXabcdYYYYYdefghZcdefgc")).row(3, Rows.text("cdefgXabcdYYYYYdefghZcdefg"));
        story.due(Call.windows(), 3).due(Call.agrees(), false).caches(1, Rows.of(3, 0, 0, 0), 3, 3).caches(0, new int[4]);
    }
}
