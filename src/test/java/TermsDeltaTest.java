/**
 * Terms: a delta and its windows, byte by byte. The bytes are written out here, without the helpers that put
 * windows together for the other tests, so that an error of the helpers would be seen.
 */
public final class TermsDeltaTest {
    private static final String WHERE = "Terms, a delta";
    private static final int[] NOTHING = {};

    public static void main(String[] args) {
        Check.sentence(WHERE, "A DELTA is the bytes 214, 195, 196, 0, 0, and then windows one behind the other.", TermsDeltaTest::windows);
        Check.sentence(WHERE, "a byte, 0 without segment, 1 when the segment is from the source, 2 when it is from the output",
                TermsDeltaTest::firstBytes);
        Check.sentence(WHERE, "with segment the integers of its length and of its place there (0 the first byte)",
                TermsDeltaTest::segments);
        Check.sentence(WHERE, "the integer of how many bytes of the window follow behind this integer", TermsDeltaTest::following);
        Check.sentence(WHERE, "the integer of its length; the byte 0", TermsDeltaTest::lengths);
        Check.sentence(WHERE, "three integers, how many bytes the data, the instructions and the addresses have",
                TermsDeltaTest::threeIntegers);
        Check.sentence(WHERE, "these bytes: all data; the codes", TermsDeltaTest::order);
        Check.sentence(WHERE, "each with the integer of its size when that is 0 in the code", TermsDeltaTest::sizes);
        Check.sentence(WHERE, "the addresses, each as its mode says", TermsDeltaTest::addresses);
        Check.sentence(WHERE + ", encode", "the delta becomes the head of five bytes and for each piece a window", TermsDeltaTest::written);
        Check.end();
    }

    private static int[] delta(int... bytes) {
        return Rows.join(Rows.of(214, 195, 196, 0, 0), bytes);
    }

    private static void windows() {
        Decoding.good("no window", NOTHING, delta()).due(Call.windows(), 0);
        Decoding.good("one", NOTHING, delta(0, 7, 1, 0, 1, 1, 0, 7, 2), 7).due(Call.windows(), 1);
        Decoding.good("two", NOTHING, delta(0, 7, 1, 0, 1, 1, 0, 7, 2, 0, 7, 1, 0, 1, 1, 0, 8, 2), 7, 8).due(Call.windows(), 2);
        Decoding.ill("a byte between two", NOTHING, delta(0, 7, 1, 0, 1, 1, 0, 7, 2, 9, 0, 7, 1, 0, 1, 1, 0, 8, 2));
        Decoding.ill("a byte behind the last", NOTHING, delta(0, 7, 1, 0, 1, 1, 0, 7, 2, 0));
        Decoding.ill("the head twice", NOTHING, delta(delta(0, 7, 1, 0, 1, 1, 0, 7, 2)));
        Decoding.ill("no head", NOTHING, Rows.of(0, 7, 1, 0, 1, 1, 0, 7, 2));
    }

    private static void firstBytes() {
        int[] source = {1, 2, 3, 4, 5};
        int[] none = {0, 9, 3, 0, 3, 1, 0, 7, 8, 9, 4};
        int[] fromSource = {1, 4, 1, 7, 4, 0, 0, 1, 1, 20, 0};
        int[] fromOutput = {2, 5, 2, 7, 4, 0, 0, 1, 1, 20, 1};
        Decoding.good("one of each", source, delta(Rows.join(none, fromSource, fromOutput)), 7, 8, 9, 2, 3, 4, 5, 2, 3, 4, 5);
        Decoding.good("the source alone", source, delta(fromSource), 2, 3, 4, 5);
        Decoding.ill("no output as yet", source, delta(fromOutput));
        Decoding.ill("no integers of a segment behind 0", source, delta(0, 4, 1, 7, 4, 0, 0, 1, 1, 20, 0));
        Decoding.ill("integers of a segment behind 1", source, delta(1, 9, 3, 0, 3, 1, 0, 7, 8, 9, 4));
    }

    /** The length stands before the place; both may be longer than they need to be. */
    private static void segments() {
        int[] source = {1, 2, 3, 4, 5, 6};
        Decoding.good("length 2, place 4", source, delta(1, 2, 4, 8, 2, 0, 0, 2, 1, 19, 2, 0), 5, 6);
        Decoding.good("length 4, place 2", source, delta(1, 4, 2, 8, 2, 0, 0, 2, 1, 19, 2, 0), 3, 4);
        Decoding.good("length 6, place 0", source, delta(1, 6, 0, 8, 2, 0, 0, 2, 1, 19, 2, 0), 1, 2);
        Decoding.ill("length 2, place 5", source, delta(1, 2, 5, 8, 2, 0, 0, 2, 1, 19, 2, 0));
        Decoding.good("length 2 in two bytes, place 4 in three", source,
                delta(1, 128, 2, 128, 128, 4, 8, 2, 0, 0, 2, 1, 19, 2, 0), 5, 6);
        int[] first = Rows.join(Rows.of(0, 130, 54, 130, 44, 0, 130, 44, 3, 0), Rows.same(7, 299), Rows.of(9), Rows.of(1, 130, 44));
        int[] last = {2, 129, 22, 129, 22, 9, 1, 0, 0, 2, 2, 19, 1, 129, 21};
        Decoding.good("length 150, place 150", NOTHING, delta(Rows.join(first, last)), Rows.join(Rows.same(7, 299), Rows.of(9, 9)));
    }

    /** The bytes of an integer count as many as they are, those of this one not at all. */
    private static void following() {
        Decoding.good("7", NOTHING, delta(0, 7, 1, 0, 1, 1, 0, 7, 2), 7);
        Decoding.ill("6", NOTHING, delta(0, 6, 1, 0, 1, 1, 0, 7, 2));
        Decoding.ill("8", NOTHING, delta(0, 8, 1, 0, 1, 1, 0, 7, 2));
        Decoding.good("7 in five bytes", NOTHING, delta(0, 128, 128, 128, 128, 7, 1, 0, 1, 1, 0, 7, 2), 7);
        Decoding.ill("11 with its own bytes", NOTHING, delta(0, 128, 128, 128, 128, 11, 1, 0, 1, 1, 0, 7, 2));
        Decoding.good("11 with longer integers", NOTHING, delta(0, 11, 128, 128, 1, 0, 128, 1, 128, 1, 0, 7, 2), 7);
        Decoding.ill("7 with longer integers", NOTHING, delta(0, 7, 128, 128, 1, 0, 128, 1, 128, 1, 0, 7, 2));
        Decoding.good("the segment's bytes stand before it", Rows.of(5), delta(1, 128, 1, 128, 0, 7, 1, 0, 1, 1, 0, 7, 2), 7);
        Decoding.ill("the segment's bytes counted", Rows.of(5), delta(1, 128, 1, 128, 0, 11, 1, 0, 1, 1, 0, 7, 2));
        int[] data = Rows.up(1, 200);
        int[] behind = Rows.join(Rows.of(129, 72, 0, 129, 72, 3, 0), data, Rows.of(1, 129, 72));
        Decoding.good("210", NOTHING, delta(Rows.join(Rows.of(0, 129, 82), behind)), data);
        Decoding.ill("209", NOTHING, delta(Rows.join(Rows.of(0, 129, 81), behind)));
        Decoding.ill("211", NOTHING, delta(Rows.join(Rows.of(0, 129, 83), behind)));
    }

    private static void lengths() {
        Decoding.good("3 and 0", NOTHING, delta(0, 8, 3, 0, 1, 2, 0, 7, 0, 3), 7, 7, 7);
        Decoding.ill("2 and 0", NOTHING, delta(0, 8, 2, 0, 1, 2, 0, 7, 0, 3));
        Decoding.ill("4 and 0", NOTHING, delta(0, 8, 4, 0, 1, 2, 0, 7, 0, 3));
        Decoding.ill("0 and 3", NOTHING, delta(0, 8, 0, 3, 1, 2, 0, 7, 0, 3));
        Decoding.ill("3 and 1", NOTHING, delta(0, 8, 3, 1, 1, 2, 0, 7, 0, 3));
        Decoding.ill("3 and the integer 0 in two bytes", NOTHING, delta(0, 9, 3, 128, 0, 1, 2, 0, 7, 0, 3));
        Decoding.ill("3 and no byte 0", NOTHING, delta(0, 7, 3, 1, 2, 0, 7, 0, 3));
    }

    /** Each of them has its own place: in any other order they are those of no well formed window. */
    private static void threeIntegers() {
        int[] output = {7, 8, 9, 7, 8, 9, 7, 8, 8, 9, 7, 8};
        int[][] orders = {{3, 4, 2}, {3, 2, 4}, {4, 3, 2}, {4, 2, 3}, {2, 3, 4}, {2, 4, 3}};
        for (int k = 0; k < orders.length; k++) {
            int[] o = orders[k];
            int[] bytes = delta(0, 14, 12, 0, o[0], o[1], o[2], 7, 8, 9, 4, 19, 5, 20, 0, 1);
            String what = o[0] + ", " + o[1] + ", " + o[2];
            if (k == 0) {
                Decoding.good(what, NOTHING, bytes, output);
            } else {
                Decoding.ill(what, NOTHING, bytes);
            }
        }
    }

    /** Data of three instructions, then six bytes of codes, then two addresses. */
    private static void order() {
        int[] front = {0, 17, 14, 0, 4, 6, 2};
        int[] data = {1, 2, 3, 4};
        int[] codes = {3, 0, 3, 2, 36, 116};
        int[] addresses = {4, 2};
        int[] output = {1, 2, 3, 3, 3, 4, 3, 3, 3, 4, 3, 3, 3, 4};
        Decoding.good("data, codes, addresses", NOTHING, delta(Rows.join(front, data, codes, addresses)), output);
        Decoding.ill("data, addresses, codes", NOTHING, delta(Rows.join(front, data, addresses, codes)));
        Decoding.ill("codes, data, addresses", NOTHING, delta(Rows.join(front, codes, data, addresses)));
        Decoding.ill("addresses, codes, data", NOTHING, delta(Rows.join(front, addresses, codes, data)));
    }

    private static void sizes() {
        Decoding.good("of a RUN", NOTHING, delta(0, 8, 3, 0, 1, 2, 0, 7, 0, 3), 7, 7, 7);
        Decoding.good("of an ADD", NOTHING, delta(0, 10, 3, 0, 3, 2, 0, 7, 8, 9, 1, 3), 7, 8, 9);
        Decoding.good("of an ADD whose size is in the code", NOTHING, delta(0, 9, 3, 0, 3, 1, 0, 7, 8, 9, 4), 7, 8, 9);
        Decoding.ill("of an ADD whose size is in both", NOTHING, delta(0, 10, 3, 0, 3, 2, 0, 7, 8, 9, 4, 3));
        Decoding.good("of a COPY", Rows.of(5, 6), delta(1, 2, 0, 8, 3, 0, 0, 2, 1, 19, 3, 0), 5, 6, 5);
        Decoding.good("of a COPY whose size is in the code", Rows.of(5, 6), delta(1, 2, 0, 7, 4, 0, 0, 1, 1, 20, 0), 5, 6, 5, 6);
        Decoding.good("each behind its own code", NOTHING, delta(0, 14, 9, 0, 3, 6, 0, 1, 2, 3, 0, 4, 1, 1, 0, 4),
                1, 1, 1, 1, 2, 3, 3, 3, 3);
        Decoding.good("130", NOTHING, delta(0, 10, 129, 2, 0, 1, 3, 0, 7, 0, 129, 2), Rows.same(7, 130));
        Decoding.good("3 in four bytes", NOTHING, delta(0, 11, 3, 0, 1, 5, 0, 7, 0, 128, 128, 128, 3), 7, 7, 7);
        Decoding.ill("none behind the last code", NOTHING, delta(0, 7, 3, 0, 1, 1, 0, 7, 0));
    }

    /** The source's bytes tell which address was meant; the first COPY makes NEAR 0 and SAME(3) the address 3. */
    private static void addresses() {
        int[] source = Rows.up(10, 40);
        int[] first = {13, 14, 15, 16};
        Decoding.good("mode 0", source, delta(1, 40, 0, 9, 8, 0, 0, 2, 2, 20, 20, 3, 9), Rows.join(first, Rows.up(19, 4)));
        Decoding.good("mode 1", source, delta(1, 40, 0, 9, 8, 0, 0, 2, 2, 20, 36, 3, 9), Rows.join(first, Rows.of(45, 46, 47, 48)));
        Decoding.good("mode 2", source, delta(1, 40, 0, 9, 8, 0, 0, 2, 2, 20, 52, 3, 9), Rows.join(first, Rows.up(22, 4)));
        Decoding.good("mode 3", source, delta(1, 40, 0, 9, 8, 0, 0, 2, 2, 20, 68, 3, 9), Rows.join(first, Rows.up(19, 4)));
        Decoding.good("mode 6", source, delta(1, 40, 0, 9, 8, 0, 0, 2, 2, 20, 116, 3, 3), Rows.join(first, first));
        Decoding.good("mode 6, a place that is 0", source, delta(1, 40, 0, 9, 8, 0, 0, 2, 2, 20, 116, 3, 9), Rows.join(first, Rows.up(10, 4)));
        Decoding.good("an integer of two bytes", source, delta(1, 40, 0, 10, 8, 0, 0, 2, 3, 20, 20, 3, 128, 9),
                Rows.join(first, Rows.up(19, 4)));
        Decoding.good("one byte, though it is 128 or more", source, delta(1, 40, 0, 9, 8, 0, 0, 2, 2, 20, 116, 3, 200),
                Rows.join(first, Rows.up(10, 4)));
        Decoding.ill("one byte, and no integer", source, delta(1, 40, 0, 10, 8, 0, 0, 2, 3, 20, 116, 3, 128, 3));
    }

    private static void written() {
        Story story = new Story("two copies").put(0, Rows.text("abcde")).put(1, Rows.text("abcdxbcde"));
        story.again().then(Call.encode(64), 19).row(2, delta(1, 5, 0, 10, 9, 0, 1, 2, 2, 'x', 253, 20, 0, 1));
        story.again().then(Call.encode(5), 28).row(2,
                delta(1, 5, 0, 8, 5, 0, 1, 1, 1, 'x', 253, 0, 1, 5, 0, 7, 4, 0, 0, 1, 1, 20, 1));
        new Story("without source").put(1, Rows.text("aaaaabc")).then(Call.encode(64), 18)
                .row(2, delta(0, 11, 7, 0, 3, 3, 0, 'a', 'b', 'c', 0, 5, 3));
        new Story("an ADD of 18").put(1, Rows.up(1, 18)).then(Call.encode(64), 5 + 7 + 18 + 2)
                .row(2, delta(Rows.join(Rows.of(0, 25, 18, 0, 18, 2, 0), Rows.up(1, 18), Rows.of(1, 18))));
    }
}
