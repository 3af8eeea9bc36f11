/** Promise 6: decode, its argument and its answers; what is ill formed or too long is in the Terms tests. */
public final class Promise06DecodeTest {
    private static final String WHERE = "Promise 6";
    private static final int[] NOTHING = {};

    public static void main(String[] args) {
        Check.sentence(WHERE, "Decodes the delta with the source", Promise06DecodeTest::withTheSource);
        Check.sentence(WHERE, "the output is what the windows have made, one behind the other", Promise06DecodeTest::output);
        Check.sentence(WHERE, "and its length is answered", Promise06DecodeTest::answers);
        Check.sentence(WHERE, "BAD when bound is not 0 .. 400", Promise06DecodeTest::wrongBounds);
        Check.sentence(WHERE, "ILLFORMED or TOOLONG when it is so (whichever is found first).", Promise06DecodeTest::whicheverIsFirst);
        Check.sentence(WHERE + ", what it leaves alone", "decode", Promise06DecodeTest::leavesAlone);
        Check.end();
    }

    private static int[] add(int... data) {
        return new Window(data.length).data(data).codes(1 + data.length).bytes();
    }

    private static void withTheSource() {
        int[] copy = Rows.delta(new Window(3).from(1, 3, 0).codes(19, 3).addresses(0).bytes());
        Story story = new Story("the source as it is at the call").put(0, 1, 2, 3).put(2, copy);
        story.then(Call.decode(3), 3).row(3, 1, 2, 3);
        story.then(Call.set(0, 1, 9), true).row(3, 1, 2, 3).then(Call.decode(3), 3).row(3, 1, 9, 3);
        story.then(Call.cut(0, 2), true).refuses(Call.decode(3), DeltaWindows.ILLFORMED);
        story.then(Call.put(0, 5, 1), true).then(Call.decode(3), 3).row(3, 1, 9, 5);
    }

    private static void output() {
        Decoding.good("no window", NOTHING, Rows.HEAD);
        Decoding.good("one", NOTHING, Rows.delta(add(1, 2)), 1, 2);
        Decoding.good("two", NOTHING, Rows.delta(add(1, 2), add(3)), 1, 2, 3);
        Story story = new Story("nothing is left of a longer one before").put(2, Rows.delta(add(1, 2, 3), add(4))).then(Call.decode(4), 4);
        story.fill(2, Rows.delta(add(9))).then(Call.decode(4), 1).row(3, 9);
        story.fill(2, Rows.HEAD).then(Call.decode(0), 0).row(3);
        Stories.full().fill(2, Rows.delta(add(9))).then(Call.decode(1), 1).row(3, 9);
    }

    private static void answers() {
        new Story("the least").put(2, Rows.HEAD).due(Call.decode(0), 0).due(Call.decode(400), 0);
        new Story("the greatest").put(2, Stories.greatDelta()).due(Call.decode(400), 400);
        for (int n : new int[] {1, 2, 63, 64, 65, 127, 128, 255, 256, 399}) {
            int[] delta = Rows.delta(new Window(n).data(3).codes(Rows.join(Rows.of(0), Window.integer(n))).bytes());
            new Story("a run of " + n).put(2, delta).due(Call.decode(n), n).due(Call.decode(400), n).then(Call.decode(n), n)
                    .due(Call.length(3), n);
        }
    }

    private static void wrongBounds() {
        for (Story story : Stories.all()) {
            for (int bound : new int[] {-1, 401, -400, Integer.MIN_VALUE, Integer.MAX_VALUE}) {
                story.refuses(Call.decode(bound), DeltaWindows.BAD);
            }
        }
        Story ill = new Story("bad goes before ill formed and too long").put(2, 1);
        ill.refuses(Call.decode(-1), DeltaWindows.BAD).refuses(Call.decode(401), DeltaWindows.BAD);
        Story head = new Story("those just within").put(2, Rows.HEAD);
        head.due(Call.decode(0), 0).due(Call.decode(400), 0);
        new Story("none is allowed and one is made").put(2, Rows.delta(add(1))).refuses(Call.decode(0), DeltaWindows.TOOLONG);
    }

    private static void whicheverIsFirst() {
        int[] ill = new Window(1).data(5).codes(3).bytes();
        Decoding.tooLong("too long first", NOTHING, Rows.delta(add(1, 2), ill), 1);
        Decoding.ill("ill formed first", NOTHING, Rows.delta(ill, add(1, 2)), 1);
        Decoding.tooLong("too long first in one window", NOTHING, Rows.delta(ill), 0);
        Decoding.ill("ill formed first in one window", NOTHING, Rows.delta(Rows.of(1, 1, 0, 9, 5, 0)), 4);
        Decoding.ill("ill formed alone", NOTHING, Rows.delta(ill), 1);
        Decoding.tooLong("too long alone", NOTHING, Rows.delta(add(1, 2)), 1);
        Decoding.good("neither", NOTHING, Rows.delta(add(1, 2)), 1, 2);
    }

    private static void leavesAlone() {
        Story story = Stories.differing().then(Call.decode(400), 26);
        story.row(0, Rows.text("kbcdefghijkl")).row(1, Rows.text("cdefgXabcdYYYYYdefghZcbefg")).due(Call.length(2), 31);
        story.row(3, Rows.text("cdefgWkbcdYYYYYdefghZcbefg"));
        story.caches(0, Rows.of(2, 0, 3, 0), 2, 2, 3, 3).caches(1, Rows.of(2, 0, 3, 0), 2, 2, 3, 3).due(Call.windows(), 1);
    }
}
