import java.util.function.LongFunction;

/** Terms: integers as they are written and as they are read, in each place where one stands. */
public final class TermsIntegersTest {
    private static final String WHERE = "Terms, integers";
    private static final int LENGTH = 3;
    private static final int PLACES = 21;
    private static final long MOST = 2147483647L;
    private static final int[] SOURCE = Rows.up(1, 10);
    private static final int[] OUTPUT = {70, 71, 90, 90, 90, 4, 5, 90, 7, 4, 70, 5};

    public static void main(String[] args) {
        Check.sentence(WHERE, "An INTEGER, 0 .. 2147483647", TermsIntegersTest::leastAndGreatest);
        Check.sentence(WHERE, "is written as one to five bytes", TermsIntegersTest::oneToFiveBytes);
        Check.sentence(WHERE, "seven bits each, the highest first", TermsIntegersTest::lengths);
        Check.sentence(WHERE, "in as few bytes as possible", TermsIntegersTest::asFewAsPossible);
        Check.sentence(WHERE, "with 128 added to all but the last", TermsIntegersTest::allButTheLast);
        Check.sentence(WHERE, "it may have more bytes 128 in front", TermsIntegersTest::moreInFront);
        Check.sentence(WHERE, "but no more than five bytes in all", TermsIntegersTest::noMoreThanFive);
        Check.sentence(WHERE, "and it must not be greater than 2147483647", TermsIntegersTest::notGreater);
        Check.sentence("Terms, to decode", "an integer is not as said", TermsIntegersTest::illFormed);
        Check.end();
    }

    /** Writes integers one after the other, one of them otherwise. */
    private static final class Writer {
        private final int place;
        private final LongFunction<int[]> otherwise;
        private int written = 0;

        Writer(int place, LongFunction<int[]> otherwise) {
            this.place = place;
            this.otherwise = otherwise;
        }

        int[] next(long value) {
            int[] bytes = written == place ? otherwise.apply(value) : Window.integer(value);
            written++;
            return bytes;
        }
    }

    private static int[] delta(int place, LongFunction<int[]> otherwise) {
        return Rows.delta(window(place, otherwise));
    }

    /** A window in which an integer stands in all places where one can; the one in this place is written otherwise. */
    private static int[] window(int place, LongFunction<int[]> otherwise) {
        Writer w = new Writer(place, otherwise);
        Window window = new Window(OUTPUT.length).from(1, 6, 2);
        window.with(Window.SEGMENT_SIZE, w.next(6)).with(Window.SEGMENT_PLACE, w.next(2));
        int following = w.written++;
        window.with(Window.LENGTH, w.next(OUTPUT.length));
        int[] sizes = {2, 3, 2, 1, 1, 1, 1, 1};
        int[] kinds = {1, 0, 19, 35, 51, 67, 83, 99};
        int[] codes = {};
        for (int k = 0; k < sizes.length; k++) {
            codes = Rows.join(codes, Rows.of(kinds[k]), w.next(sizes[k]));
        }
        int[] addresses = {};
        for (int integer : new int[] {1, 3, 3, 1, 2, 1}) {
            addresses = Rows.join(addresses, w.next(integer));
        }
        window.data(70, 71, 90).codes(codes).addresses(addresses);
        window.with(Window.DATA_SIZE, w.next(3));
        window.with(Window.CODES_SIZE, w.next(codes.length));
        window.with(Window.ADDRESSES_SIZE, w.next(addresses.length));
        if (place == following) {
            window.with(Window.FOLLOWING, otherwise.apply(window.following()));
        }
        Check.due("places of integers", w.written, PLACES);
        return window.bytes();
    }

    /** A delta that ends behind this length. */
    private static int[] begun(long length) {
        return Rows.delta(Rows.join(Rows.of(0), Window.integer(9), Window.integer(length)));
    }

    private static void leastAndGreatest() {
        Decoding.good("length 0", Rows.of(), Rows.delta(new Window(0).bytes()));
        Decoding.tooLong("length 2147483647", Rows.of(), begun(MOST), 400);
        Decoding.ill("length 2147483648", Rows.of(), begun(MOST + 1));
        Decoding.tooLong("2147483647 following bytes, and a length of 1", Rows.of(),
                Rows.delta(Rows.join(Rows.of(0), Window.integer(MOST), Rows.of(1))), 0);
        Decoding.ill("2147483648 following bytes, and a length of 1", Rows.of(),
                Rows.delta(Rows.join(Rows.of(0), Window.integer(MOST + 1), Rows.of(1))), 0);
        for (int place = 0; place < PLACES; place++) {
            int[] delta = delta(place, value -> Window.integer(MOST));
            if (place == LENGTH) {
                Decoding.tooLong("the greatest as the length", SOURCE, delta, 400);
            } else {
                Decoding.ill("the greatest in place " + place, SOURCE, delta);
            }
        }
    }

    /** The least and the greatest of one to five bytes, as lengths that are too long where they are integers. */
    private static void oneToFiveBytes() {
        long[] edges = {127, 128, 16383, 16384, 2097151, 2097152, 268435455, 268435456, MOST};
        int[] sizes = {1, 2, 2, 3, 3, 4, 4, 5, 5};
        for (int k = 0; k < edges.length; k++) {
            Check.due("bytes of " + edges[k], Window.integer(edges[k]).length, sizes[k]);
            Decoding.tooLong("length " + edges[k], Rows.of(), begun(edges[k]), (int) Math.min(400, edges[k] - 1));
        }
        Decoding.ill("five bytes 127 and over", Rows.of(), Rows.delta(Rows.of(0, 9, 255, 255, 255, 255, 127)));
    }

    /** The bound tells the number that was read. */
    private static void lengths() {
        for (int n : new int[] {1, 2, 126, 127, 128, 129, 255, 256, 257, 383, 384, 385, 399, 400}) {
            int[] delta = Rows.delta(new Window(n).data(5).codes(Rows.join(Rows.of(0), Window.integer(n))).bytes());
            Decoding.good("length " + n, Rows.of(), delta, Rows.same(5, n));
            Decoding.tooLong("length " + n, Rows.of(), delta, n - 1);
        }
        // 128 + 3 and 16 are 3 times 128 and 16; the lowest first it would be more than 400.
        Decoding.good("400", Rows.of(), Rows.delta(Rows.of(0, 10, 131, 16, 0, 1, 3, 0, 5, 0, 131, 16)), Rows.same(5, 400));
    }

    /** All integers that encode writes are below 128 and so have one byte each. */
    private static void asFewAsPossible() {
        for (int segment : new int[] {0, 1, 47, 48}) {
            for (int n : new int[] {1, 2, 17, 18, 63, 64}) {
                int[] target = Rows.up(100, n);
                int[] codes = n <= 17 ? Rows.of(1 + n) : Rows.of(1, n);
                int[] head = segment == 0 ? Rows.of(0) : Rows.of(1, segment, 0);
                int[] rest = Rows.join(Rows.of(5 + n + codes.length, n, 0, n, codes.length, 0), target, codes);
                int[] delta = Rows.delta(head, rest);
                new Story("source " + segment + ", target " + n).put(0, Rows.up(0, segment)).put(1, target)
                        .then(Call.encode(64), delta.length).row(2, delta);
            }
        }
        int[] target = {};
        int[] data = {};
        int[] codes = {};
        for (int k = 0; k < 12; k++) {
            target = Rows.join(target, Rows.of(100 + k), Rows.same(200 + k, 4));
            data = Rows.join(data, Rows.of(100 + k, 200 + k));
            codes = Rows.join(codes, Rows.of(2, 0, 4));
        }
        int[] delta = Rows.delta(Rows.of(1, 48, 0), Rows.of(5 + 24 + 36, 60, 0, 24, 36, 0), data, codes);
        new Story("many following bytes").put(0, Rows.up(0, 48)).put(1, target).then(Call.encode(64), delta.length).row(2, delta);
    }

    /** A last byte of 128 or more is none: the integer goes on with what follows. */
    private static void allButTheLast() {
        for (int place = 0; place < PLACES; place++) {
            int[] delta = delta(place, value -> Rows.of(128 + (int) value));
            if (place == LENGTH) {
                Decoding.tooLong("a length of 12 times 128 and the byte behind it", SOURCE, delta, 400);
            } else {
                Decoding.ill("128 added to the last, place " + place, SOURCE, delta);
            }
            Decoding.ill("128 added to the last of five, place " + place, SOURCE,
                    delta(place, value -> Rows.of(128, 128, 128, 128, 128 + (int) value)));
        }
        Decoding.good("128 added to none", SOURCE, delta(-1, null), OUTPUT);
    }

    private static void moreInFront() {
        for (int place = 0; place < PLACES; place++) {
            for (int bytes = 1; bytes <= 5; bytes++) {
                int n = bytes;
                Decoding.good(bytes + " bytes in place " + place, SOURCE, delta(place, value -> Window.integer(value, n)), OUTPUT)
                        .caches(1, Rows.of(6, 12, 4, 11), 1, 1, 10, 10, 4, 4, 11, 11, 6, 6, 12, 12);
            }
        }
    }

    private static void noMoreThanFive() {
        for (int place = 0; place < PLACES; place++) {
            Decoding.good("five bytes in place " + place, SOURCE, delta(place, value -> Window.integer(value, 5)), OUTPUT);
            for (int bytes : new int[] {6, 7, 10}) {
                Decoding.ill(bytes + " bytes in place " + place, SOURCE, delta(place, value -> Window.integer(value, bytes)));
            }
        }
        Decoding.ill("a length of 500 in six bytes", Rows.of(), Rows.delta(Rows.join(Rows.of(0, 9), Window.integer(500, 6))));
    }

    /** Also where int arithmetic would wrap round to the right number. */
    private static void notGreater() {
        for (int place = 0; place < PLACES; place++) {
            for (int bit = 31; bit <= 34; bit++) {
                long more = 1L << bit;
                Decoding.ill("2 to the " + bit + " more in place " + place, SOURCE,
                        delta(place, value -> Window.integer(value + more, 5)));
            }
            Decoding.ill("2 to the 35 less 1 in place " + place, SOURCE, delta(place, value -> Rows.of(255, 255, 255, 255, 127)));
        }
        for (int number = Window.DATA_SIZE; number <= Window.ADDRESSES_SIZE; number++) {
            for (int following = 0; following < 24; following++) {
                Window none = new Window(0).with(number, Window.integer(MOST + 1)).with(Window.FOLLOWING, following);
                Decoding.ill("a number of bytes beyond int, whatever follows", Rows.of(), Rows.delta(none.bytes(), Rows.of(5, 0, 0, 0, 0, 0)));
            }
        }
        Decoding.tooLong("2147483647 in five bytes", Rows.of(), Rows.delta(Rows.of(0, 9, 135, 255, 255, 255, 127)), 400);
        Decoding.ill("2147483648 in five bytes", Rows.of(), Rows.delta(Rows.of(0, 9, 136, 128, 128, 128, 0)));
    }

    /** In a second window too. */
    private static void illFormed() {
        int[] first = new Window(2).data(8, 9).codes(3).bytes();
        for (int place = 0; place < PLACES; place++) {
            int[] six = window(place, value -> Window.integer(value, 6));
            int[] beyond = window(place, value -> Window.integer(value + MOST + 1));
            int[] right = window(place, value -> Window.integer(value, 3));
            Decoding.ill("six bytes in place " + place, SOURCE, Rows.delta(first, six));
            Decoding.ill("beyond int in place " + place, SOURCE, Rows.delta(first, beyond));
            Decoding.good("three bytes in place " + place, SOURCE, Rows.delta(first, right), Rows.join(Rows.of(8, 9), OUTPUT));
        }
    }
}
