import java.util.Arrays;

/** Terms: when a delta is too long, and whether that or what is ill formed is found first. */
public final class TermsTooLongTest {
    private static final String WHERE = "Terms, to decode";
    private static final int[] NOTHING = {};
    private static final int[] MOST = Window.integer(2147483647);

    public static void main(String[] args) {
        Check.sentence(WHERE, "It is TOO LONG as soon as a window's length has been read that makes more", TermsTooLongTest::oneWindow);
        Check.sentence(WHERE, "with all windows before, than the bound", TermsTooLongTest::allWindows);
        Check.sentence(WHERE + ", wrap-around", "with all windows before, than the bound", TermsTooLongTest::beyondInt);
        Check.sentence(WHERE + ", what stands behind the length", "as soon as a window's length has been read", TermsTooLongTest::goesBefore);
        Check.sentence(WHERE + ", what stands before the length", "it is read from its first byte on; it is ILL FORMED as soon as",
                TermsTooLongTest::comesBehind);
        Check.sentence(WHERE + ", window by window", "it is read from its first byte on", TermsTooLongTest::windowByWindow);
        Check.end();
    }

    private static int[] add(int... data) {
        return new Window(data.length).data(data).codes(1 + data.length).bytes();
    }

    private static int[] run(int n) {
        return new Window(n).data(7).codes(Rows.join(Rows.of(0), Window.integer(n))).bytes();
    }

    /** A window of this length of which nothing stands behind the length. */
    private static int[] begun(int length) {
        return Rows.join(Rows.of(0, 9), Window.integer(length));
    }

    private static void bounds(String what, int[] delta, int length) {
        for (int bound : new int[] {0, 1, length - 1, length, length + 1, 399, 400}) {
            if (bound >= 0 && bound <= 400) {
                Story story = Decoding.before(what, NOTHING, delta);
                if (bound < length) {
                    story.refuses(Call.decode(bound), DeltaWindows.TOOLONG);
                } else {
                    story.due(Call.decode(bound), length);
                }
            }
        }
    }

    private static void oneWindow() {
        for (int n : new int[] {1, 2, 127, 128, 399, 400}) {
            bounds("one window of " + n, Rows.delta(run(n)), n);
        }
        bounds("one window of no bytes", Rows.delta(new Window(0).bytes()), 0);
        bounds("no window", Rows.HEAD, 0);
        Decoding.tooLong("401", NOTHING, Rows.delta(run(401)), 400);
        Decoding.tooLong("the greatest length", NOTHING, Rows.delta(Rows.join(Rows.of(0, 9), MOST)), 400);
        Decoding.tooLong("the greatest length and bound 0", NOTHING, Rows.delta(Rows.join(Rows.of(0, 9), MOST)), 0);
    }

    private static void allWindows() {
        bounds("two and one", Rows.delta(add(1, 2), add(3)), 3);
        bounds("one and two", Rows.delta(add(1), add(2, 3)), 3);
        bounds("200 and 200", Rows.delta(run(200), run(200)), 400);
        bounds("399 and 1", Rows.delta(run(399), run(1)), 400);
        bounds("1 and 399", Rows.delta(run(1), run(399)), 400);
        bounds("ten and none at the end", Rows.delta(run(10), new Window(0).bytes()), 10);
        Decoding.tooLong("400 and 1", NOTHING, Rows.delta(run(400), run(1)), 400);
        Decoding.tooLong("200 and 201", NOTHING, Rows.delta(run(200), run(201)), 400);
        Decoding.tooLong("three windows", NOTHING, Rows.delta(run(100), run(100), run(101)), 300);
        Decoding.good("three windows that fit", NOTHING, Rows.delta(run(100), run(100), run(100)), Rows.same(7, 300));
    }

    private static void beyondInt() {
        Decoding.tooLong("1 and the greatest", NOTHING, Rows.delta(run(1), Rows.join(Rows.of(0, 9), MOST)), 400);
        Decoding.tooLong("400 and the greatest", NOTHING, Rows.delta(run(400), Rows.join(Rows.of(0, 9), MOST)), 400);
        Decoding.tooLong("2 and the greatest but one", NOTHING, Rows.delta(run(2), Rows.join(Rows.of(0, 9), Window.integer(2147483646))), 2);
    }

    /** Whatever is wrong behind the length, too long is found before it; when the bound allows the length, it is ill formed. */
    private static void behind(String what, int[] window, int length) {
        Decoding.tooLong(what, Rows.of(4, 5), Rows.delta(window), length - 1);
        Decoding.ill(what, Rows.of(4, 5), Rows.delta(window), length);
        Decoding.tooLong(what + ", second window", Rows.of(4, 5), Rows.delta(add(1, 2), window), length + 1);
        Decoding.ill(what + ", second window", Rows.of(4, 5), Rows.delta(add(1, 2), window), length + 2);
    }

    private static void goesBefore() {
        behind("nothing", begun(4), 4);
        behind("nothing behind a length in five bytes", Rows.of(0, 9, 128, 128, 128, 128, 4), 4);
        behind("the byte 1", Rows.join(begun(4), Rows.of(1)), 4);
        behind("the byte 1 and all the rest", new Window(1).data(5).codes(2).with(Window.BEHIND, 1).bytes(), 1);
        behind("the byte 0 and nothing", Rows.join(begun(4), Rows.of(0)), 4);
        behind("an integer that is none", Rows.join(begun(4), Rows.of(0, 128, 128, 128, 128, 128, 0)), 4);
        behind("half an integer", Rows.join(begun(4), Rows.of(0, 128)), 4);
        behind("too few following bytes", new Window(1).data(5).codes(2).with(Window.FOLLOWING, 6).bytes(), 1);
        behind("too many following bytes", new Window(1).data(5).codes(2).with(Window.FOLLOWING, 8).bytes(), 1);
        behind("the greatest number of following bytes", new Window(1).data(5).codes(2).with(Window.FOLLOWING, MOST).bytes(), 1);
        behind("size 0", new Window(1).data(5).codes(1, 0, 2).bytes(), 1);
        behind("too many bytes", new Window(1).data(5, 6).codes(3).bytes(), 1);
        behind("too few bytes", new Window(2).data(5).codes(2).bytes(), 2);
        behind("no data", new Window(1).codes(2).bytes(), 1);
        behind("data not used", new Window(1).data(5, 6).codes(2).bytes(), 1);
        behind("no size", new Window(1).data(5).codes(1).bytes(), 1);
        behind("no address", new Window(4).from(1, 2, 0).codes(20).bytes(), 4);
        behind("an address that is here", new Window(4).from(1, 2, 0).codes(20).addresses(2).bytes(), 4);
        behind("addresses not used", new Window(1).data(5).codes(2).addresses(0).bytes(), 1);
    }

    /** What is wrong up to the length is found before the length is too long. */
    private static void before(String what, int[] delta) {
        for (int bound : new int[] {0, 1, 3, 400}) {
            Decoding.ill(what, Rows.of(4, 5), delta, bound);
        }
    }

    private static void comesBehind() {
        for (int n = 0; n < 5; n++) {
            int[] head = Rows.HEAD.clone();
            head[n]++;
            before("a wrong head", Rows.join(head, add(1, 2, 3, 4)));
            before("a cut head", Arrays.copyOf(Rows.HEAD, n));
        }
        before("a wrong first byte", Rows.delta(Rows.of(3, 9, 4)));
        before("a wrong first byte with segment", Rows.delta(Rows.of(3, 0, 0, 9, 4)));
        before("a segment beyond the source", Rows.delta(Rows.of(1, 3, 0, 9, 4)));
        before("a segment of no bytes beyond the source", Rows.delta(Rows.of(1, 0, 3, 9, 4)));
        before("a segment beyond the output", Rows.delta(Rows.of(2, 1, 0, 9, 4)));
        before("a segment's length that is no integer", Rows.delta(Rows.of(1, 128, 128, 128, 128, 128, 0, 0, 9, 4)));
        before("a segment's place that is no integer", Rows.delta(Rows.of(1, 0, 136, 128, 128, 128, 0, 9, 4)));
        before("a number of following bytes that is no integer", Rows.delta(Rows.of(0, 128, 128, 128, 128, 128, 9, 4)));
        before("a number of following bytes beyond int", Rows.delta(Rows.of(0, 136, 128, 128, 128, 9, 4)));
        before("a length beyond int", Rows.delta(Rows.of(0, 9, 136, 128, 128, 128, 4)));
        before("a length in six bytes", Rows.delta(Rows.of(0, 9, 128, 128, 128, 128, 128, 4)));
        before("half a length", Rows.delta(Rows.of(0, 9, 132)));
        before("no length", Rows.delta(Rows.of(0, 9)));
        before("a first byte alone", Rows.delta(Rows.of(0)));
    }

    private static void windowByWindow() {
        int[] ill = new Window(1).data(5).codes(3).bytes();
        int[] fewer = new Window(2).data(5).codes(2).bytes();
        int[] unused = new Window(1).data(5, 6).codes(2).bytes();
        for (int[] wrong : new int[][] {ill, fewer, unused}) {
            Decoding.ill("an ill formed window before one that is too long", NOTHING, Rows.delta(wrong, add(1, 2, 3)), 2);
            Decoding.tooLong("one that is too long before an ill formed window", NOTHING, Rows.delta(add(1, 2, 3), wrong), 2);
            Decoding.tooLong("a good one, one that is too long, an ill formed one", NOTHING, Rows.delta(add(1), add(1, 2), wrong), 2);
            Decoding.ill("a good one, an ill formed one, one that is too long", NOTHING, Rows.delta(add(1), wrong, add(1, 2, 3)), 3);
        }
        Decoding.tooLong("too long, and then no window", NOTHING, Rows.delta(add(1, 2, 3), Rows.of(3)), 2);
        Decoding.ill("not too long, and then no window", NOTHING, Rows.delta(add(1, 2, 3), Rows.of(3)), 3);
        Decoding.ill("a window of no bytes is never too long", NOTHING, Rows.delta(add(1), new Window(0).data(5).bytes()), 1);
        Decoding.good("a window of no bytes at the bound", NOTHING, Rows.delta(add(1), new Window(0).bytes()), 1);
    }
}
