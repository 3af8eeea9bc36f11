/** Promise 10: the caches at the end of the last window, of the encoder and of the decoder. */
public final class Promise10CacheTest {
    private static final int[] NOTHING = {};

    public static void main(String[] args) {
        before();
        wrongArguments();
        encodeSide();
        decodeSide();
        lastWindowOnly();
        farAddresses();
        Check.end();
    }

    /** Looks at all places of a side: NEAR, and then pairs of a place in SAME and what is there; the rest is 0. */
    private static void caches(String what, DeltaWindows x, int side, int[] near, int... same) {
        for (int i = 0; i < 4; i++) {
            Check.due(what + ": cache(" + side + ", " + i + ")", x.cache(side, i), near[i]);
        }
        int[] due = new int[768];
        for (int k = 0; k < same.length; k += 2) {
            due[same[k]] = same[k + 1];
        }
        // All 768 places would be more calls than an object is used for.
        for (int i = 0; i < 60; i++) {
            Check.due(what + ": cache(" + side + ", " + (4 + i) + ")", x.cache(side, 4 + i), due[i]);
        }
        for (int i : new int[] {127, 128, 255, 256, 257, 383, 384, 511, 512, 766, 767}) {
            Check.due(what + ": cache(" + side + ", " + (4 + i) + ")", x.cache(side, 4 + i), due[i]);
        }
    }

    private static void before() {
        DeltaWindows x = new DeltaWindows();
        caches("before", x, 0, new int[4]);
        caches("before", x, 1, new int[4]);
    }

    private static void wrongArguments() {
        DeltaWindows x = new DeltaWindows();
        for (int side : new int[] {-1, 2, Integer.MIN_VALUE, Integer.MAX_VALUE}) {
            Check.due("cache(" + side + ", 0)", x.cache(side, 0), DeltaWindows.BAD);
        }
        for (int i : new int[] {-1, 772, Integer.MIN_VALUE, Integer.MAX_VALUE}) {
            Check.due("cache(0, " + i + ")", x.cache(0, i), DeltaWindows.BAD);
            Check.due("cache(1, " + i + ")", x.cache(1, i), DeltaWindows.BAD);
        }
        Check.due("cache(0, 771)", x.cache(0, 771), 0);
        Check.due("cache(1, 771)", x.cache(1, 771), 0);
    }

    private static void encodeSide() {
        DeltaWindows x = new DeltaWindows();
        int[] source = new int[48];
        for (int i = 0; i < 48; i++) {
            source[i] = 100 + i;
        }
        Rows.fill(x, Rows.SOURCE, source);
        Rows.fill(x, Rows.TARGET, Rows.join(up(103), up(110), up(101), up(120), up(140), up(110)));
        Check.due("encode(64)", x.encode(64), 5 + 3 + 1 + 5 + 6 + 6);
        caches("six copies", x, 0, Rows.of(40, 10, 1, 20), 3, 3, 10, 10, 1, 1, 20, 20, 40, 40);
        caches("not decoded yet", x, 1, new int[4]);
        Check.due("a bad encode", x.encode(0), DeltaWindows.BAD);
        Check.due("it leaves the caches", x.cache(0, 0), 40);
        Check.due("cut", x.cut(Rows.TARGET, 0), true);
        Check.due("they are as they were at the encode", x.cache(0, 0), 40);
        Check.due("encode(64)", x.encode(64), 5);
        caches("a delta without windows", x, 0, new int[4]);
    }

    private static void decodeSide() {
        int[] source = {1, 2, 3, 4, 5, 6, 7, 8};
        int[] codes = {20, 20, 52, 36, 20};
        int[] addresses = {3, 5, 4, 2, 6};
        DeltaWindows x = Rows.with(source, Rows.delta(Rows.window(1, 8, 0, Rows.body(20, NOTHING, codes, addresses))));
        Check.due("decode(20)", x.decode(20), 20);
        // The fourth address is 2 before here, which is 8 + 12.
        caches("five copies", x, 1, Rows.of(6, 5, 7, 18), 3, 3, 5, 5, 7, 7, 18, 18, 6, 6);
        caches("nothing was encoded", x, 0, new int[4]);
        Check.due("too long", x.decode(19), DeltaWindows.TOOLONG);
        Check.due("left alone: cache(1, 0)", x.cache(1, 0), 6);
        Check.due("put", x.put(Rows.DELTA, 0, 1), true);
        Check.due("ill formed", x.decode(20), DeltaWindows.ILLFORMED);
        Check.due("left alone: cache(1, 3)", x.cache(1, 3), 18);
        Check.due("left alone: cache(1, 22)", x.cache(1, 22), 18);
        Check.due("bad", x.decode(401), DeltaWindows.BAD);
        Check.due("left alone: cache(1, 1)", x.cache(1, 1), 5);
        Check.due("cut", x.cut(Rows.DELTA, 5), true);
        Check.due("decode(0)", x.decode(0), 0);
        caches("a delta without windows", x, 1, new int[4]);
    }

    private static void lastWindowOnly() {
        DeltaWindows x = new DeltaWindows();
        Rows.fill(x, Rows.SOURCE, Rows.text("-abcdefgh"));
        Rows.fill(x, Rows.TARGET, Rows.text("abcdefghcdef"));
        Check.due("encode(8)", x.encode(8), 5 + 2 * (3 + 1 + 5 + 2));
        caches("the last window's", x, 0, Rows.of(3, 0, 0, 0), 3, 3);
        Check.due("decode(12)", x.decode(12), 12);
        caches("the last window's", x, 1, Rows.of(3, 0, 0, 0), 3, 3);
        Check.due("set", x.set(Rows.TARGET, 9, 0), true);
        Check.due("encode(8)", x.encode(8), 5 + 3 + 1 + 5 + 2 + 3 + 1 + 5 + 5);
        caches("the last window has no copy", x, 0, new int[4]);
        Check.due("the decoder's is the latest decode's", x.cache(1, 0), 3);
        Check.due("decode(12)", x.decode(12), 12);
        caches("the last window has no copy", x, 1, new int[4]);
    }

    /** Addresses beyond 255: a RUN of 400 - 4, and COPYs of 1 behind it. */
    private static void farAddresses() {
        int[] data = {9};
        int[] codes = {0, 131, 12, 19, 1, 19, 1, 35, 1, 35, 1};
        int[] addresses = {130, 0, 130, 1, 12, 129, 15};
        int following = 2 + 1 + 3 + data.length + codes.length + addresses.length;
        int[] head = {0, following, 131, 16, 0, data.length, codes.length, addresses.length};
        DeltaWindows x = Rows.with(NOTHING, Rows.delta(Rows.join(head, data, codes, addresses)));
        Check.due("decode(400)", x.decode(400), 400);
        caches("far addresses", x, 1, Rows.of(256, 257, 386, 256), 256, 256, 257, 257, 386, 386);
        Check.due("cache(1, 390)", x.cache(1, 390), 386);
    }

    private static int[] up(int from) {
        return Rows.of(from, from + 1, from + 2, from + 3);
    }
}
