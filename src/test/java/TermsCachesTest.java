/** Terms: addresses, the modes that write them, and the caches that the modes lean on. */
public final class TermsCachesTest {
    private static final String WHERE = "Terms, caches";
    private static final int[] NOTHING = {};
    private static final int[] ZEROS = new int[4];
    private static final int[] SOURCE = Rows.up(100, 48);

    public static void main(String[] args) {
        Check.sentence(WHERE, "all 0 when a window begins", TermsCachesTest::zeroAtFirst);
        Check.sentence(WHERE + ", NEAR and its turn", "all 0 when a window begins", TermsCachesTest::nearBeginsAnew);
        Check.sentence(WHERE + ", encode", "all 0 when a window begins", TermsCachesTest::encodeBeginsAnew);
        Check.sentence(WHERE, "NEAR 0 .. 3 and SAME 0 .. 767", TermsCachesTest::places);
        Check.sentence(WHERE, "Mode 0: the integer a.", TermsCachesTest::modeOfAddress);
        Check.sentence(WHERE, "Mode 1: the integer here - a.", TermsCachesTest::modeOfHere);
        Check.sentence(WHERE, "Modes 2 .. 5: the integer a - NEAR(mode - 2).", TermsCachesTest::modesOfNear);
        Check.sentence(WHERE, "Modes 6 .. 8: one byte b, where a is SAME(256 (mode - 6) + b).", TermsCachesTest::modesOfSame);
        Check.sentence(WHERE, "After each COPY", TermsCachesTest::onlyCopies);
        Check.sentence(WHERE, "of the four NEAR, in turn from NEAR 0 on, the next one becomes a", TermsCachesTest::inTurn);
        Check.sentence(WHERE, "and SAME(a modulo 768) becomes a", TermsCachesTest::sameBecomes);
        Check.end();
    }

    /** A window that has the whole source as its segment and copies one byte for each address. */
    private static int[] copies(int[] modes, int... addresses) {
        int[] codes = {};
        for (int mode : modes) {
            codes = Rows.join(codes, Rows.of(19 + 16 * mode, 1));
        }
        return new Window(modes.length).from(1, 48, 0).codes(codes).addresses(addresses).bytes();
    }

    private static int[] modes(int... modes) {
        return modes;
    }

    private static void zeroAtFirst() {
        int[] first = copies(modes(0, 0, 0, 0), 20, 21, 22, 23);
        int[] made = {120, 121, 122, 123};
        for (int mode = 2; mode <= 5; mode++) {
            Decoding.good("NEAR by mode " + mode, SOURCE, Rows.delta(copies(modes(mode), 5)), 105);
            Decoding.good("NEAR by mode " + mode + " in a second window", SOURCE, Rows.delta(first, copies(modes(mode), 5)),
                    Rows.join(made, Rows.of(105)));
        }
        for (int mode = 6; mode <= 8; mode++) {
            for (int b : new int[] {0, 20, 23, 127, 128, 255}) {
                Decoding.good("SAME by mode " + mode, SOURCE, Rows.delta(copies(modes(mode), b)), 100);
                Decoding.good("SAME by mode " + mode + " in a second window", SOURCE, Rows.delta(first, copies(modes(mode), b)),
                        Rows.join(made, Rows.of(100)));
            }
        }
        int[] none = new Window(0).bytes();
        Decoding.good("a window of no bytes at the end", SOURCE, Rows.delta(first, none), made).caches(1, ZEROS);
        int[] add = new Window(1).data(9).codes(2).bytes();
        Decoding.good("an ADD at the end", SOURCE, Rows.delta(first, add), Rows.join(made, Rows.of(9))).caches(1, ZEROS);
    }

    /** Whatever NEAR was next in the window before. */
    private static void nearBeginsAnew() {
        for (int n = 0; n <= 5; n++) {
            int[] first = copies(new int[n], Rows.up(30, n));
            int[] output = Rows.join(Rows.up(130, n), Rows.of(107, 109));
            Decoding.good(n + " copies in the window before", SOURCE, Rows.delta(first, copies(modes(0, 2), 7, 2)), output)
                    .caches(1, Rows.of(7, 9, 0, 0), 7, 7, 9, 9);
        }
    }

    private static void encodeBeginsAnew() {
        int[] target = Rows.join(Rows.up(105, 4), Rows.up(107, 4));
        int[] again = Rows.join(target, target);
        int[] window = new Window(8).from(1, 48, 0).codes(20, 52).addresses(5, 2).bytes();
        Story story = new Story("two windows that are the same").put(0, SOURCE).put(1, again).then(Call.encode(8), 5 + 2 * window.length);
        story.row(2, Rows.delta(window, window)).caches(0, Rows.of(5, 7, 0, 0), 5, 5, 7, 7);
        Story last = new Story("no copy in the last window").put(0, SOURCE).put(1, Rows.join(target, Rows.of(1)));
        last.then(Call.encode(8), 5 + window.length + 11).caches(0, ZEROS);
    }

    private static void places() {
        Decoding.good("all NEAR", SOURCE, Rows.delta(copies(modes(0, 0, 0, 0), 40, 41, 42, 43)), 140, 141, 142, 143)
                .caches(1, Rows.of(40, 41, 42, 43), 40, 40, 41, 41, 42, 42, 43, 43)
                .due(Call.cache(1, 0), 40).due(Call.cache(1, 3), 43).due(Call.cache(1, 4), 0).due(Call.cache(1, 771), 0)
                .refuses(Call.cache(1, -1), DeltaWindows.BAD).refuses(Call.cache(1, 772), DeltaWindows.BAD);
        Decoding.good("SAME(0) becomes 0", SOURCE, Rows.delta(copies(modes(0, 0), 1, 0)), 101, 100)
                .caches(1, Rows.of(1, 0, 0, 0), 1, 1);
    }

    private static void modeOfAddress() {
        Decoding.good("0", SOURCE, Rows.delta(copies(modes(0), 0)), 100);
        Decoding.good("the last of the segment", SOURCE, Rows.delta(copies(modes(0), 47)), 147);
        Decoding.ill("here", SOURCE, Rows.delta(copies(modes(0), 48)));
        Decoding.good("here - 1 when a byte is made", SOURCE, Rows.delta(copies(modes(0, 0), 3, 48)), 103, 103);
        Decoding.ill("here when a byte is made", SOURCE, Rows.delta(copies(modes(0, 0), 3, 49)));
    }

    private static void modeOfHere() {
        Decoding.good("1 is the last byte", SOURCE, Rows.delta(copies(modes(1), 1)), 147).due(Call.cache(1, 0), 47);
        Decoding.good("here is the first byte", SOURCE, Rows.delta(copies(modes(1), 48)), 100).due(Call.cache(1, 0), 0);
        Decoding.ill("0 is here", SOURCE, Rows.delta(copies(modes(1), 0)));
        Decoding.ill("here + 1 is below 0", SOURCE, Rows.delta(copies(modes(1), 49)));
        Decoding.good("here goes up with each byte", SOURCE, Rows.delta(copies(modes(1, 1, 1), 1, 2, 50)), 147, 147, 100)
                .caches(1, Rows.of(47, 47, 0, 0), 47, 47);
        int[] paired = new Window(5).from(1, 48, 0).data(9).codes(163 + 12).addresses(1).bytes();
        Decoding.good("here counts the ADD of the same code", SOURCE, Rows.delta(paired), 9, 9, 9, 9, 9).due(Call.cache(1, 0), 48);
    }

    private static void modesOfNear() {
        int[] near = {20, 10, 30, 5};
        int[] made = {120, 110, 130, 105};
        for (int mode = 2; mode <= 5; mode++) {
            int[] modes = modes(0, 0, 0, 0, mode);
            int base = near[mode - 2];
            Decoding.good("NEAR itself", SOURCE, Rows.delta(copies(modes, Rows.join(near, Rows.of(0)))), Rows.join(made, Rows.of(100 + base)));
            Decoding.good("one more", SOURCE, Rows.delta(copies(modes, Rows.join(near, Rows.of(1)))), Rows.join(made, Rows.of(101 + base)));
            // here is 48 + 4.
            Decoding.good("up to here - 1", SOURCE, Rows.delta(copies(modes, Rows.join(near, Rows.of(51 - base)))), Rows.join(made, Rows.of(105)));
            Decoding.ill("here", SOURCE, Rows.delta(copies(modes, Rows.join(near, Rows.of(52 - base)))));
            Decoding.ill("the sum is beyond int", SOURCE, Rows.delta(copies(modes, Rows.join(near, Window.integer(2147483647)))));
            Decoding.ill("the sum is below 0 in int", SOURCE, Rows.delta(copies(modes, Rows.join(near, Window.integer(2147483647 - base + 1)))));
        }
    }

    /** RUN of 390, a COPY from a by mode 0, and a COPY by this mode and byte. */
    private static Story sameStory(int a, int mode, int b) {
        int[] codes = {0, 131, 6, 19, 1, 19 + 16 * mode, 1};
        int[] addresses = Rows.join(Window.integer(a), Rows.of(b));
        int[] window = new Window(392).data(9).codes(codes).addresses(addresses).bytes();
        return Decoding.good("address " + a + ", then mode " + mode + ", byte " + b, NOTHING, Rows.delta(window), Rows.same(9, 392));
    }

    private static void modesOfSame() {
        for (int a : new int[] {1, 127, 128, 129, 254, 255, 256, 257, 383, 384, 388, 389}) {
            int mode = 6 + a / 256;
            sameStory(a, mode, a % 256).due(Call.cache(1, 0), a).due(Call.cache(1, 1), a);
            sameStory(a, mode, (a + 1) % 256).due(Call.cache(1, 0), a).due(Call.cache(1, 1), 0);
            for (int other = 6; other <= 8; other++) {
                sameStory(a, other, a % 256).due(Call.cache(1, 1), other == mode ? a : 0);
            }
        }
        for (int mode = 6; mode <= 8; mode++) {
            for (int b : new int[] {0, 128, 255}) {
                int[] empty = new Window(1).codes(19 + 16 * mode, 1).addresses(b).bytes();
                Decoding.ill("0 is not below here when that is 0", SOURCE, Rows.delta(empty));
                int[] two = new Window(1).from(1, 48, 0).codes(19 + 16 * mode, 1).addresses(b, 0).bytes();
                Decoding.ill("it is one byte and never two", SOURCE, Rows.delta(two));
            }
        }
    }

    private static void onlyCopies() {
        int[] window = new Window(6).from(1, 48, 0).data(20, 21, 22).codes(3, 0, 4).bytes();
        Decoding.good("ADD and RUN", SOURCE, Rows.delta(window), 20, 21, 22, 22, 22, 22).caches(1, ZEROS);
        int[] mixed = new Window(9).from(1, 48, 0).data(20, 21, 22).codes(2, 19, 1, 0, 4, 2, 19, 2).addresses(7, 8).bytes();
        Decoding.good("COPYs between them", SOURCE, Rows.delta(mixed), 20, 107, 21, 21, 21, 21, 22, 108, 109)
                .caches(1, Rows.of(7, 8, 0, 0), 7, 7, 8, 8);
        for (int mode = 0; mode <= 8; mode++) {
            int[] addresses = mode == 1 ? Rows.of(7, 49 - 7) : mode == 0 || mode == 6 ? Rows.of(7, 7) : Rows.of(7, 0);
            int a = mode == 2 || mode <= 1 || mode == 6 ? 7 : 0;
            Decoding.good("a COPY by mode " + mode, SOURCE, Rows.delta(copies(modes(0, mode, 0), Rows.join(addresses, Rows.of(9)))),
                    107, 100 + a, 109).caches(1, Rows.of(7, a, 9, 0), 7, 7, 9, 9);
        }
    }

    private static int[] addresses(int n) {
        int[] addresses = new int[n];
        for (int k = 0; k < n; k++) {
            addresses[k] = 1 + 3 * k;
        }
        return addresses;
    }

    private static int[] nearAfter(int n) {
        int[] near = new int[4];
        for (int k = 0; k < n; k++) {
            near[k % 4] = 1 + 3 * k;
        }
        return near;
    }

    private static int[] sameAfter(int n) {
        int[] same = new int[2 * n];
        for (int k = 0; k < 2 * n; k++) {
            same[k] = 1 + 3 * (k / 2);
        }
        return same;
    }

    /** None to twelve copies: three times round. */
    private static void inTurn() {
        for (int n = 0; n <= 12; n++) {
            int[] output = new int[n];
            int[] target = {};
            for (int k = 0; k < n; k++) {
                output[k] = 101 + 3 * k;
                target = Rows.join(target, Rows.up(101 + 3 * k, 4));
            }
            Decoding.good(n + " copies", SOURCE, Rows.delta(copies(new int[n], addresses(n))), output)
                    .caches(1, nearAfter(n), sameAfter(n));
            new Story(n + " copies").put(0, SOURCE).put(1, target).then(Call.encode(64), n == 0 ? 5 : 14 + 2 * n)
                    .caches(0, nearAfter(n), sameAfter(n));
        }
    }

    /** A greater address than 446 is not possible: one byte is left of 400 behind a segment of 48. */
    private static void sameBecomes() {
        for (int a : new int[] {1, 47, 48, 255, 256, 384, 445, 446}) {
            int[] codes = {0, 131, 15, 19, 1};
            int[] window = new Window(400).from(1, 48, 0).data(100).codes(codes).addresses(Window.integer(a)).bytes();
            Decoding.before("address " + a, Rows.same(100, 48), Rows.delta(window)).then(Call.decode(400), 400)
                    .caches(1, Rows.of(a, 0, 0, 0), a, a);
        }
        Decoding.good("twice the same", SOURCE, Rows.delta(copies(modes(0, 0), 9, 9)), 109, 109).caches(1, Rows.of(9, 9, 0, 0), 9, 9);
    }
}
