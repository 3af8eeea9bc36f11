/** Promise 12: whether output and target are the same row of bytes. */
public final class Promise12AgreesTest {
    private static final String WHERE = "Promise 12";

    public static void main(String[] args) {
        Check.sentence(WHERE, "Whether output and target are the same row of bytes.", Promise12AgreesTest::sameOrNot);
        Check.sentence(WHERE + ", both empty", "the same row of bytes", Promise12AgreesTest::empty);
        Check.sentence(WHERE + ", one has more bytes", "the same row of bytes", Promise12AgreesTest::lengths);
        Check.sentence(WHERE + ", the first and the last byte", "the same row of bytes", Promise12AgreesTest::eachByte);
        Check.end();
    }

    /** The output is n bytes, each one more than the one before, and the target is empty. */
    private static Story output(int n) {
        return new Story("output of " + n)
                .put(2, Rows.delta(new Window(n).data(Rows.up(0, n)).codes(Rows.join(Rows.of(1), Window.integer(n))).bytes()))
                .then(Call.decode(n), n);
    }

    private static void sameOrNot() {
        Stories.agreeing().due(Call.agrees(), true);
        Stories.differing().due(Call.agrees(), false);
        Stories.full().due(Call.agrees(), false);
        Story delta = output(3).put(1, 0, 1, 2);
        delta.due(Call.agrees(), true);
        delta.fill(2, 1, 2, 3).put(0, 7).due(Call.agrees(), true);
        delta.then(Call.decode(400), DeltaWindows.ILLFORMED).due(Call.agrees(), true);
        new Story("encode alone does not make an output").put(1, 1, 2, 3).then(Call.encode(64), 16).due(Call.agrees(), false);
    }

    private static void empty() {
        Stories.fresh().due(Call.agrees(), true);
        new Story("the target is not").put(1, 0).due(Call.agrees(), false).then(Call.cut(1, 0), true).due(Call.agrees(), true);
        output(1).due(Call.agrees(), false).then(Call.cut(2, 5), true).then(Call.decode(0), 0).due(Call.agrees(), true);
    }

    private static void lengths() {
        for (int n : new int[] {1, 2, 63, 64}) {
            output(n).put(1, Rows.up(0, n)).due(Call.agrees(), true);
            output(n).put(1, Rows.up(0, n - 1)).due(Call.agrees(), false);
        }
        for (int n : new int[] {1, 2, 62, 63}) {
            output(n).put(1, Rows.up(0, n + 1)).due(Call.agrees(), false);
        }
        for (int n : new int[] {65, 66, 128, 200}) {
            output(n).put(1, Rows.up(0, 64)).due(Call.agrees(), false);
        }
        Story most = new Story("output of 400").put(1, Rows.same(7, 64))
                .put(2, Rows.delta(new Window(400).data(7).codes(0, 131, 16).bytes())).then(Call.decode(400), 400);
        most.due(Call.agrees(), false);
    }

    private static void eachByte() {
        for (int n : new int[] {1, 2, 64}) {
            for (int i : new int[] {0, n / 2, n - 1}) {
                Story story = output(n).put(1, Rows.up(0, n));
                story.then(Call.set(1, i, i + 1), true).due(Call.agrees(), false);
                story.then(Call.set(1, i, 255 - i), true).due(Call.agrees(), false);
                story.then(Call.set(1, i, i), true).due(Call.agrees(), true);
            }
        }
    }
}
