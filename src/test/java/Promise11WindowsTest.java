/** Promise 11: how many windows the latest decode that was not refused had. */
public final class Promise11WindowsTest {
    private static final String WHERE = "Promise 11";

    public static void main(String[] args) {
        Check.sentence(WHERE, "0 before", Promise11WindowsTest::before);
        Check.sentence(WHERE, "The number of windows", Promise11WindowsTest::numbers);
        Check.sentence(WHERE, "in the latest decode", Promise11WindowsTest::latest);
        Check.sentence(WHERE, "that was not refused", Promise11WindowsTest::notRefused);
        Check.end();
    }

    private static int[] one() {
        return new Window(1).data(9).codes(2).bytes();
    }

    private static int[] none() {
        return new Window(0).bytes();
    }

    private static void before() {
        Stories.fresh().due(Call.windows(), 0);
        new Story("not decoded yet").put(1, 1, 2, 3).then(Call.encode(1), 5 + 3 * 9).due(Call.windows(), 0);
        new Story("refused").then(Call.decode(9), DeltaWindows.ILLFORMED).due(Call.windows(), 0);
        new Story("too long").put(2, Rows.delta(one(), one())).then(Call.decode(1), DeltaWindows.TOOLONG).due(Call.windows(), 0);
    }

    private static Story decoded(int size, int[]... windows) {
        return new Story("decoded").put(2, Rows.delta(windows)).then(Call.decode(400), size);
    }

    private static void numbers() {
        decoded(0).due(Call.windows(), 0);
        decoded(1, one()).due(Call.windows(), 1);
        decoded(0, none()).due(Call.windows(), 1);
        decoded(2, one(), none(), one()).due(Call.windows(), 3);
        decoded(1, none(), none(), one(), none()).due(Call.windows(), 4);
        Story most = new Story("as many as a delta can have").put(2, Rows.HEAD);
        for (int k = 0; k < 142; k++) {
            most.put(2, none());
        }
        most.due(Call.length(2), 999).then(Call.decode(0), 0).due(Call.windows(), 142);
        Story pieces = new Story("pieces").put(1, Rows.up(0, 64));
        for (int w = 1; w <= 64; w++) {
            pieces.again().then(Call.encode(w), encoded(64, w)).then(Call.decode(64), 64).due(Call.windows(), (64 + w - 1) / w);
        }
    }

    /** The length of the delta for n bytes of which no two are the same, in pieces of w. */
    private static int encoded(int n, int w) {
        int length = 5;
        for (int from = 0; from < n; from += w) {
            int size = Math.min(w, n - from);
            length += 7 + size + (size <= 17 ? 1 : 2);
        }
        return length;
    }

    private static void latest() {
        Story story = decoded(2, one(), none(), one());
        story.fill(2, Rows.delta(one())).due(Call.windows(), 3);
        story.then(Call.decode(1), 1).due(Call.windows(), 1);
        story.put(1, 1, 2, 3, 4, 5).then(Call.encode(2), encoded(5, 2)).due(Call.windows(), 1);
        story.then(Call.decode(5), 5).due(Call.windows(), 3);
        story.then(Call.cut(2, 5), true).then(Call.decode(0), 0).due(Call.windows(), 0);
    }

    private static void notRefused() {
        Story story = decoded(2, one(), none(), one());
        story.refuses(Call.decode(1), DeltaWindows.TOOLONG);
        story.refuses(Call.decode(-1), DeltaWindows.BAD);
        story.refuses(Call.decode(401), DeltaWindows.BAD);
        story.put(2, none()).put(2, 3).refuses(Call.decode(9), DeltaWindows.ILLFORMED);
        story.due(Call.windows(), 3);
    }
}
