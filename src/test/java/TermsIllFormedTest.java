import java.util.Arrays;

/** Terms: each case in which a delta is ill formed, beside the nearest one that is not. */
public final class TermsIllFormedTest {
    private static final String WHERE = "Terms, to decode";
    private static final int[] NOTHING = {};
    private static final int[] MOST = Window.integer(2147483647);

    public static void main(String[] args) {
        Check.sentence(WHERE, "the head is not those five bytes", TermsIllFormedTest::heads);
        Check.sentence(WHERE, "a window's first byte is not 0, 1 or 2", TermsIllFormedTest::firstBytes);
        Check.sentence(WHERE, "or the delta ends within one or within a window", TermsIllFormedTest::cutAnywhere);
        Check.sentence(WHERE, "the segment is not wholly in the source", TermsIllFormedTest::sourceSegments);
        Check.sentence(WHERE, "or in the output as earlier windows have made it", TermsIllFormedTest::outputSegments);
        Check.sentence(WHERE, "(its place and length together are beyond the end, also with length 0)", TermsIllFormedTest::segmentsOfNoBytes);
        Check.sentence(WHERE + ", wrap-around", "its place and length together are beyond the end", TermsIllFormedTest::segmentsBeyondInt);
        Check.sentence(WHERE, "the number of following bytes is not that of the bytes which do follow in the window",
                TermsIllFormedTest::followingBytes);
        Check.sentence(WHERE, "(this is looked at when the three integers have been read)", TermsIllFormedTest::followingBytesLast);
        Check.sentence(WHERE, "the byte behind the length is not 0", TermsIllFormedTest::byteBehind);
        Check.sentence(WHERE, "an instruction's size is 0", TermsIllFormedTest::sizeZero);
        Check.sentence(WHERE, "or it would make more bytes than the window's length", TermsIllFormedTest::tooManyBytes);
        Check.sentence(WHERE, "an address is not from 0 to here - 1", TermsIllFormedTest::addresses);
        Check.sentence(WHERE + ", data", "have too few bytes", TermsIllFormedTest::dataTooFew);
        Check.sentence(WHERE + ", instructions", "have too few bytes", TermsIllFormedTest::instructionsTooFew);
        Check.sentence(WHERE + ", addresses", "have too few bytes", TermsIllFormedTest::addressesTooFew);
        Check.sentence(WHERE + ", data", "or some that are not used", TermsIllFormedTest::dataNotUsed);
        Check.sentence(WHERE + ", instructions", "or some that are not used", TermsIllFormedTest::instructionsNotUsed);
        Check.sentence(WHERE + ", addresses", "or some that are not used", TermsIllFormedTest::addressesNotUsed);
        Check.sentence(WHERE, "the window has made fewer bytes than its length", TermsIllFormedTest::fewerBytes);
        Check.sentence(WHERE, "it is ILL FORMED as soon as it is not as said above", TermsIllFormedTest::notMadeGood);
        Check.end();
    }

    private static int[] add(int... data) {
        return new Window(data.length).data(data).codes(1 + data.length).bytes();
    }

    private static Window segmented(int length) {
        return new Window(length).from(1, 2, 0);
    }

    private static void heads() {
        Decoding.good("the head alone", NOTHING, Rows.HEAD).due(Call.windows(), 0);
        Decoding.good("the head and a window", NOTHING, Rows.join(Rows.HEAD, add(1)), 1);
        for (int n = 0; n < 5; n++) {
            Decoding.ill("a head of " + n, NOTHING, Arrays.copyOf(Rows.HEAD, n));
            for (int b : new int[] {Rows.HEAD[n] + 1, Rows.HEAD[n] ^ 128, 255}) {
                int[] head = Rows.HEAD.clone();
                head[n] = b;
                Decoding.ill("byte " + n + " is " + b, NOTHING, head);
                Decoding.ill("byte " + n + " is " + b, NOTHING, Rows.join(head, add(1)));
            }
        }
        Decoding.ill("a window without head", NOTHING, add(1));
        Decoding.ill("the head twice", NOTHING, Rows.join(Rows.HEAD, Rows.HEAD));
    }

    private static void firstBytes() {
        int[] source = {1};
        int[] body = Rows.body(2, Rows.of(6), Rows.of(0, 2), NOTHING);
        Decoding.good("0", source, Rows.delta(Rows.of(0), body), 6, 6);
        Decoding.good("1", source, Rows.delta(Rows.of(1, 0, 0), body), 6, 6);
        Decoding.good("2", source, Rows.delta(Rows.of(2, 0, 0), body), 6, 6);
        for (int first : new int[] {3, 4, 5, 127, 128, 129, 130, 254, 255}) {
            Decoding.ill(first + " without segment", source, Rows.delta(Rows.of(first), body));
            Decoding.ill(first + " with segment", source, Rows.delta(Rows.of(first, 0, 0), body));
            Decoding.ill(first + " in the second window", source, Rows.delta(add(1), Rows.of(first), body));
        }
        Decoding.ill("0 with segment", source, Rows.delta(Rows.of(0, 0, 0), body));
        Decoding.ill("1 without segment", source, Rows.delta(Rows.of(1), body));
    }

    /** A delta that is cut is ill formed unless it is cut between two windows. */
    private static void cutAnywhere() {
        int[] source = {7, 8, 9};
        int[] first = new Window(6).from(1, 2, 1).data(1, 2).codes(1, 2, 19, 4).addresses(128, 128, 0).bytes();
        int[] second = new Window(9).from(2, 3, 2).data(3, 4).codes(0, 128, 4, 247).addresses(128, 1)
                .with(Window.LENGTH, 128, 128, 9).with(Window.CODES_SIZE, 128, 4).with(Window.SEGMENT_SIZE, 128, 3).bytes();
        int[] output = {1, 2, 8, 9, 1, 2, 3, 3, 3, 3, 9, 1, 3, 3, 4};
        int[] delta = Rows.delta(first, second);
        for (int n = 0; n <= delta.length; n++) {
            int[] cut = Arrays.copyOf(delta, n);
            if (n == 5 || n == 5 + first.length || n == delta.length) {
                Decoding.good("cut to " + n, source, cut, Arrays.copyOf(output, n == 5 ? 0 : n == delta.length ? 15 : 6));
            } else {
                Decoding.ill("cut to " + n, source, cut);
            }
        }
        int[] none = new Window(0).bytes();
        for (int n = 1; n < none.length; n++) {
            Decoding.ill("a window of no bytes, cut to " + n, NOTHING, Rows.delta(Arrays.copyOf(none, n)));
        }
    }

    private static void sourceSegments() {
        for (int has : new int[] {0, 1, 5, 48}) {
            int[] source = Rows.up(1, has);
            for (int size : new int[] {0, 1, 2, has - 1, has, has + 1, 127}) {
                for (int place : new int[] {0, 1, has - size - 1, has - size, has - size + 1, has - 1, has, has + 1}) {
                    segment("source of " + has, 1, source, NOTHING, source, size, place);
                }
            }
        }
    }

    private static void outputSegments() {
        int[] three = Rows.join(add(61, 62), add(63));
        int[] many = Rows.join(add(Rows.up(60, 17)), add(Rows.up(77, 13)));
        for (int[] before : new int[][] {NOTHING, three, many}) {
            int[] made = Rows.up(before == three ? 61 : 60, before == NOTHING ? 0 : before == three ? 3 : 30);
            int has = made.length;
            for (int size : new int[] {0, 1, 2, has - 1, has, has + 1}) {
                for (int place : new int[] {0, 1, has - size - 1, has - size, has - size + 1, has - 1, has, has + 1}) {
                    segment("output of " + has, 2, Rows.up(1, 48), before, made, size, place);
                }
            }
        }
    }

    /** A window with this segment behind those before; it copies the whole segment, or adds one byte when that is empty. */
    private static void segment(String what, int from, int[] source, int[] before, int[] there, int size, int place) {
        if (size < 0 || place < 0) {
            return;
        }
        int[] made = from == 2 ? there : NOTHING;
        Window window = new Window(Math.max(1, size)).from(from, size, place);
        window.data(size == 0 ? Rows.of(9) : NOTHING).codes(size == 0 ? Rows.of(2) : Rows.of(19, size)).addresses(size == 0 ? NOTHING : Rows.of(0));
        int[] delta = Rows.delta(before, window.bytes());
        String named = what + ": segment of " + size + " at " + place;
        if (place + size <= there.length) {
            int[] copied = size == 0 ? Rows.of(9) : Arrays.copyOfRange(there, place, place + size);
            Decoding.good(named, source, delta, Rows.join(made, copied));
        } else {
            Decoding.ill(named, source, delta);
        }
    }

    private static void segmentsOfNoBytes() {
        int[] source = {1, 2, 3, 4, 5};
        for (int place = 0; place <= 5; place++) {
            Decoding.good("in the source at " + place, source, Rows.delta(new Window(1).from(1, 0, place).data(6).codes(2).bytes()), 6);
        }
        Decoding.ill("beyond the source's end", source, Rows.delta(new Window(1).from(1, 0, 6).data(6).codes(2).bytes()));
        Decoding.ill("beyond the end of no source", NOTHING, Rows.delta(new Window(1).from(1, 0, 1).data(6).codes(2).bytes()));
        for (int place = 0; place <= 3; place++) {
            Decoding.good("in the output at " + place, source, Rows.delta(add(7, 8, 9), new Window(1).from(2, 0, place).data(6).codes(2).bytes()),
                    7, 8, 9, 6);
        }
        Decoding.ill("beyond the output's end", source, Rows.delta(add(7, 8, 9), new Window(1).from(2, 0, 4).data(6).codes(2).bytes()));
        Decoding.ill("beyond the end of no output", source, Rows.delta(new Window(1).from(2, 0, 1).data(6).codes(2).bytes()));
        Decoding.ill("the window's own bytes are not yet there", source, Rows.delta(new Window(3).from(2, 0, 1).data(6).codes(0, 3).bytes()));
    }

    private static void segmentsBeyondInt() {
        int[] source = {1, 2, 3, 4, 5};
        int[][] numbers = {Rows.of(0), Rows.of(1), Rows.of(2), Rows.of(5), MOST, Window.integer(2147483646), Window.integer(1 << 30)};
        for (int[] size : numbers) {
            for (int[] place : numbers) {
                if (size.length > 1 || place.length > 1) {
                    for (int from = 1; from <= 2; from++) {
                        Window window = new Window(1).from(from, 0, 0).data(6).codes(2);
                        window.with(Window.SEGMENT_SIZE, size).with(Window.SEGMENT_PLACE, place);
                        Decoding.ill("a segment far beyond the end", source, Rows.delta(add(7, 8), window.bytes()));
                    }
                }
            }
        }
    }

    private static void followingBytes() {
        Window one = new Window(1).data(5).codes(2);
        for (int n = 0; n < 128; n++) {
            int[] delta = Rows.delta(new Window(1).data(5).codes(2).with(Window.FOLLOWING, n).bytes());
            if (n == one.following()) {
                Decoding.good(n + " for 7", NOTHING, delta, 5);
            } else {
                Decoding.ill(n + " for 7", NOTHING, delta);
            }
        }
        for (int n = 0; n < 20; n++) {
            int[] delta = Rows.delta(new Window(0).with(Window.FOLLOWING, n).bytes());
            if (n == 5) {
                Decoding.good("5 for a window of no bytes", NOTHING, delta);
            } else {
                Decoding.ill(n + " for a window of no bytes", NOTHING, delta);
            }
        }
        int following = new Window(200).data(Rows.same(5, 200)).codes(1, 129, 72).following();
        for (int n = following - 2; n <= following + 2; n++) {
            int[] delta = Rows.delta(new Window(200).data(Rows.same(5, 200)).codes(1, 129, 72).with(Window.FOLLOWING, Window.integer(n)).bytes());
            if (n == following) {
                Decoding.good("just as many", NOTHING, delta, Rows.same(5, 200));
            } else {
                Decoding.ill(n + " for " + following, NOTHING, delta);
            }
        }
        Decoding.ill("the next window's bytes are not its own", NOTHING,
                Rows.delta(new Window(1).data(5).codes(2).with(Window.FOLLOWING, 16).bytes(), add(1)));
        Decoding.ill("the next window's bytes are not its own, by its numbers", NOTHING,
                Rows.delta(new Window(1).data(5).codes(2).with(Window.FOLLOWING, 16).with(Window.ADDRESSES_SIZE, 9).bytes(), add(1)));
        Decoding.ill("the numbers' sum wraps round", NOTHING,
                Rows.delta(new Window(1).data(5).codes(2).with(Window.DATA_SIZE, MOST).with(Window.CODES_SIZE, MOST)
                        .with(Window.ADDRESSES_SIZE, 4).with(Window.FOLLOWING, 15).bytes()));
        Decoding.ill("the greatest number", NOTHING, Rows.delta(new Window(1).data(5).codes(2).with(Window.FOLLOWING, MOST).bytes()));
        Decoding.ill("more than there are, and said so", NOTHING,
                Rows.delta(new Window(1).data(5).codes(2).with(Window.ADDRESSES_SIZE, 1).with(Window.FOLLOWING, 8).bytes()));
    }

    /** It cannot be found before the length is too long, nor before an integer behind it is none. */
    private static void followingBytesLast() {
        for (int n : new int[] {0, 6, 8, 127}) {
            int[] wrong = Rows.delta(new Window(1).data(5).codes(2).with(Window.FOLLOWING, n).bytes());
            Decoding.tooLong("too long goes before " + n + " for 7", NOTHING, wrong, 0);
            Decoding.ill(n + " for 7 when it is not too long", NOTHING, wrong, 1);
        }
        Decoding.tooLong("too long goes before more than there are", NOTHING, Rows.delta(Rows.join(Rows.of(0), MOST, Rows.of(1))), 0);
        Decoding.tooLong("too long goes before none", NOTHING, Rows.delta(Rows.of(0, 0, 1)), 0);
        Decoding.good("the three integers count with it", NOTHING,
                Rows.delta(new Window(1).data(5).codes(2).with(Window.DATA_SIZE, 128, 1).with(Window.CODES_SIZE, 128, 128, 1)
                        .with(Window.ADDRESSES_SIZE, 128, 128, 128, 128, 0).with(Window.LENGTH, 128, 128, 1)
                        .with(Window.FOLLOWING, 3 + 1 + 2 + 3 + 5 + 2).bytes()), 5);
    }

    private static void byteBehind() {
        Decoding.good("0", NOTHING, Rows.delta(new Window(1).data(5).codes(2).with(Window.BEHIND, 0).bytes()), 5);
        for (int b : new int[] {1, 2, 4, 127, 128, 255}) {
            int[] wrong = Rows.delta(new Window(1).data(5).codes(2).with(Window.BEHIND, b).bytes());
            Decoding.ill(b + " behind the length", NOTHING, wrong);
            Decoding.tooLong("too long goes before " + b, NOTHING, wrong, 0);
            Decoding.ill(b + " in a window of no bytes", NOTHING, Rows.delta(new Window(0).with(Window.BEHIND, b).bytes()));
        }
        Decoding.ill("none", NOTHING, Rows.delta(new Window(1).data(5).codes(2).with(Window.BEHIND).bytes()));
    }

    private static void sizeZero() {
        int[] source = {4, 5};
        Decoding.good("ADD of 1", source, Rows.delta(new Window(1).data(5).codes(1, 1).bytes()), 5);
        Decoding.ill("ADD of 0", source, Rows.delta(new Window(1).data(5).codes(1, 0, 2).bytes()));
        Decoding.ill("ADD of 0 at the end", source, Rows.delta(new Window(1).data(5).codes(2, 1, 0).bytes()));
        Decoding.ill("ADD of 0 in more bytes", source, Rows.delta(new Window(1).data(5).codes(1, 128, 0, 2).bytes()));
        Decoding.good("RUN of 1", source, Rows.delta(new Window(1).data(5).codes(0, 1).bytes()), 5);
        Decoding.ill("RUN of 0 with its byte", source, Rows.delta(new Window(1).data(6, 5).codes(0, 0, 2).bytes()));
        Decoding.ill("RUN of 0 without a byte", source, Rows.delta(new Window(1).data(5).codes(0, 0, 2).bytes()));
        for (int mode = 0; mode <= 8; mode++) {
            int address = mode == 1 ? 1 : 0;
            Window right = segmented(2).data(5).codes(19 + 16 * mode, 1, 2).addresses(address);
            Decoding.good("COPY of 1, mode " + mode, source, Rows.delta(right.bytes()), mode == 1 ? 5 : 4, 5);
            Window zero = segmented(1).data(5).codes(19 + 16 * mode, 0, 2).addresses(address);
            Decoding.ill("COPY of 0 with its address, mode " + mode, source, Rows.delta(zero.bytes()));
            Window none = segmented(1).data(5).codes(19 + 16 * mode, 0, 2);
            Decoding.ill("COPY of 0 without an address, mode " + mode, source, Rows.delta(none.bytes()));
        }
        Decoding.ill("in a window of no bytes", source, Rows.delta(new Window(0).codes(1, 0).bytes()));
        Decoding.ill("in a window of no bytes, with a byte", source, Rows.delta(new Window(0).data(1).codes(0, 0).bytes()));
    }

    private static void tooManyBytes() {
        int[] source = {4, 5};
        for (int n : new int[] {4, 5, 6}) {
            boolean fits = n <= 5;
            int left = 5 - Math.min(n, 5);
            int[] rest = Rows.same(9, left);
            int[] restCode = left == 0 ? NOTHING : Rows.of(1 + left);
            either("ADD of " + n, fits, source, segmented(5).data(Rows.join(Rows.up(60, n), rest)).codes(Rows.join(Rows.of(1 + n), restCode)),
                    Rows.join(Rows.up(60, n), rest));
            either("ADD of written " + n, fits, source,
                    segmented(5).data(Rows.join(Rows.up(60, n), rest)).codes(Rows.join(Rows.of(1, n), restCode)), Rows.join(Rows.up(60, n), rest));
            either("RUN of " + n, fits, source, segmented(5).data(Rows.join(Rows.of(60), rest)).codes(Rows.join(Rows.of(0, n), restCode)),
                    Rows.join(Rows.same(60, n), rest));
            either("COPY of " + n, fits, source, segmented(5).data(rest).codes(Rows.join(Rows.of(19 + n - 3), restCode)).addresses(1),
                    Rows.join(Rows.same(5, n), rest));
            either("COPY of written " + n, fits, source, segmented(5).data(rest).codes(Rows.join(Rows.of(19, n), restCode)).addresses(1),
                    Rows.join(Rows.same(5, n), rest));
        }
        either("ADD, then COPY, just fits", true, source, new Window(5).data(5).codes(163).addresses(0), Rows.same(5, 5));
        either("ADD, then COPY, one too many", false, source, new Window(4).data(5).codes(163).addresses(0), NOTHING);
        either("ADD, then COPY, that is already too much by the ADD", false, source, new Window(3).data(5, 6, 7, 8).codes(172).addresses(0), NOTHING);
        either("COPY, then ADD, just fits", true, source, segmented(5).data(9).codes(247).addresses(0), Rows.of(4, 5, 4, 5, 9));
        either("COPY, then ADD, one too many", false, source, segmented(4).data(9).codes(247).addresses(0), NOTHING);
        either("a second window's length is its own", false, source, new Window(1).data(5, 6).codes(3), NOTHING);
        for (int kind : new int[] {0, 1, 19}) {
            Window great = segmented(1).data(5).codes(Rows.join(Rows.of(kind), MOST)).addresses(kind == 19 ? Rows.of(0) : NOTHING);
            either("the greatest size", false, source, great, NOTHING);
            Window later = segmented(3).data(5, 6).codes(Rows.join(Rows.of(3, kind), MOST)).addresses(kind == 19 ? Rows.of(0) : NOTHING);
            either("the greatest size behind two bytes", false, source, later, NOTHING);
        }
    }

    /** As the only window, and as the second one. */
    private static void either(String what, boolean good, int[] source, Window window, int[] output) {
        int[] alone = Rows.delta(window.bytes());
        int[] second = Rows.delta(add(1, 2), window.bytes());
        if (good) {
            Decoding.good(what, source, alone, output);
            Decoding.good(what + ", second window", source, second, Rows.join(Rows.of(1, 2), output));
        } else {
            Decoding.ill(what, source, alone);
            Decoding.ill(what + ", second window", source, second);
        }
    }

    private static void addresses() {
        int[] source = {4, 5};
        address("mode 0, the first byte", 19, Rows.of(0), 4);
        address("mode 0, the last byte", 19, Rows.of(1), 5);
        address("mode 0, here", 19, Rows.of(2), -1);
        address("mode 0, the greatest", 19, MOST, -1);
        address("mode 1, the last byte", 35, Rows.of(1), 5);
        address("mode 1, the first byte", 35, Rows.of(2), 4);
        address("mode 1, here", 35, Rows.of(0), -1);
        address("mode 1, below 0", 35, Rows.of(3), -1);
        address("mode 1, far below 0", 35, MOST, -1);
        for (int mode = 2; mode <= 5; mode++) {
            address("mode " + mode + ", the last byte", 19 + 16 * mode, Rows.of(1), 5);
            address("mode " + mode + ", here", 19 + 16 * mode, Rows.of(2), -1);
            address("mode " + mode + ", the greatest", 19 + 16 * mode, MOST, -1);
        }
        for (int mode = 6; mode <= 8; mode++) {
            address("mode " + mode, 19 + 16 * mode, Rows.of(255), 4);
        }
        for (int mode = 0; mode <= 8; mode++) {
            for (int integer = 0; integer <= 1; integer++) {
                Window none = new Window(1).codes(19 + 16 * mode, 1).addresses(integer);
                Decoding.ill("here is 0, mode " + mode, source, Rows.delta(none.bytes()));
                Window second = new Window(1).codes(19 + 16 * mode, 1).addresses(integer);
                Decoding.ill("here is 0 in the second window, mode " + mode, source, Rows.delta(add(1), second.bytes()));
            }
        }
        Window near = segmented(2).codes(19, 1, 51, 1).addresses(Rows.join(Rows.of(1), MOST));
        Decoding.ill("NEAR and the integer are beyond int", source, Rows.delta(near.bytes()));
        Window behind = new Window(5).data(9).codes(163).addresses(1);
        Decoding.ill("ADD, then COPY from here", source, Rows.delta(behind.bytes()));
    }

    /** One byte by this code, from a segment of two. */
    private static void address(String what, int code, int[] address, int output) {
        int[] source = {4, 5};
        int[] delta = Rows.delta(segmented(1).codes(code, 1).addresses(address).bytes());
        if (output < 0) {
            Decoding.ill(what, source, delta);
        } else {
            Decoding.good(what, source, delta, output);
        }
    }

    private static void dataTooFew() {
        int[] source = {4, 5};
        for (int n = 1; n <= 17; n++) {
            either("ADD of " + n + " with one byte less", false, source, new Window(n).data(Rows.up(60, n - 1)).codes(1 + n), NOTHING);
        }
        either("ADD of written 3 with two bytes", false, source, new Window(3).data(1, 2).codes(1, 3), NOTHING);
        either("RUN without a byte", false, source, new Window(3).codes(0, 3), NOTHING);
        either("RUN behind an ADD that has used all", false, source, new Window(4).data(1).codes(2, 0, 3), NOTHING);
        either("ADD, then COPY, without data", false, source, segmented(5).codes(163).addresses(0), NOTHING);
        either("COPY, then ADD, without data", false, source, segmented(5).codes(247).addresses(0), NOTHING);
        either("more data than the delta has", false, source, new Window(1).data(5).codes(2).with(Window.DATA_SIZE, 2), NOTHING);
        either("all of the data", true, source, new Window(4).data(1, 2).codes(2, 0, 3), Rows.of(1, 2, 2, 2));
    }

    private static void instructionsTooFew() {
        int[] source = {4, 5};
        for (int kind : new int[] {0, 1}) {
            either("no size behind code " + kind, false, source, new Window(1).data(5).codes(kind), NOTHING);
            either("half a size behind code " + kind, false, source, new Window(1).data(5).codes(kind, 128), NOTHING);
            either("a size behind code " + kind, true, source, new Window(1).data(5).codes(kind, 1), Rows.of(5));
        }
        for (int mode = 0; mode <= 8; mode++) {
            int code = 19 + 16 * mode;
            either("no size behind code " + code, false, source, segmented(1).codes(code).addresses(1), NOTHING);
            either("half a size behind code " + code, false, source, segmented(1).codes(code, 128).addresses(1), NOTHING);
        }
        either("a size that goes on in the addresses", false, source, segmented(1).codes(19, 128).addresses(1, 0), NOTHING);
        either("none at all", false, source, new Window(1).data(5), NOTHING);
        either("more than the delta has", false, source, new Window(1).data(5).codes(2).with(Window.CODES_SIZE, 2), NOTHING);
    }

    private static void addressesTooFew() {
        int[] source = {4, 5};
        for (int mode = 0; mode <= 8; mode++) {
            either("none for mode " + mode, false, source, segmented(4).codes(20 + 16 * mode), NOTHING);
            either("one for two of mode " + mode, false, source, segmented(8).codes(20 + 16 * mode, 20 + 16 * mode).addresses(1), NOTHING);
            either("none for ADD, then COPY", false, source, segmented(5).data(9).codes(mode < 6 ? 163 + 12 * mode : 235 + 4 * (mode - 6)), NOTHING);
            either("none for COPY, then ADD", false, source, segmented(5).data(9).codes(247 + mode), NOTHING);
        }
        for (int mode = 0; mode <= 5; mode++) {
            either("half of one for mode " + mode, false, source, segmented(4).codes(20 + 16 * mode).addresses(128), NOTHING);
        }
        either("more than the delta has", false, source, segmented(4).codes(20).addresses(1).with(Window.ADDRESSES_SIZE, 2), NOTHING);
        either("just enough", true, source, segmented(4).codes(20).addresses(1), Rows.same(5, 4));
        Window half = segmented(4).codes(20).addresses(128);
        Decoding.ill("one that goes on in the next window", source, Rows.delta(half.bytes(), add(1)));
    }

    private static void dataNotUsed() {
        int[] source = {4, 5};
        either("one byte behind an ADD", false, source, new Window(1).data(5, 6).codes(2), NOTHING);
        either("one byte behind a RUN", false, source, new Window(3).data(5, 6).codes(0, 3), NOTHING);
        either("one byte and a COPY", false, source, segmented(4).data(5).codes(20).addresses(0), NOTHING);
        either("one byte in a window of no bytes", false, source, new Window(0).data(5), NOTHING);
        either("none in a window of no bytes", true, source, new Window(0), NOTHING);
    }

    private static void instructionsNotUsed() {
        int[] source = {4, 5};
        for (int more : new int[] {0, 1, 2, 18, 19, 20, 115, 163, 255}) {
            either("code " + more + " behind all bytes", false, source, segmented(1).data(5).codes(2, more), NOTHING);
            either("code " + more + " behind all bytes, with data and address", false, source,
                    segmented(1).data(5, 6).codes(2, more).addresses(0), NOTHING);
            either("code " + more + " in a window of no bytes", false, source, new Window(0).codes(more), NOTHING);
        }
        either("an ADD with its byte", false, source, new Window(1).data(5, 6).codes(2, 2), NOTHING);
        either("an integer", false, source, new Window(1).data(5).codes(2, 128, 0), NOTHING);
    }

    private static void addressesNotUsed() {
        int[] source = {4, 5};
        either("one and an ADD", false, source, segmented(1).data(5).codes(2).addresses(0), NOTHING);
        either("one in a window of no bytes", false, source, segmented(0).addresses(0), NOTHING);
        for (int mode = 0; mode <= 8; mode++) {
            either("one behind mode " + mode, false, source, segmented(4).codes(20 + 16 * mode).addresses(1, 0), NOTHING);
            either("128 behind mode " + mode, false, source, segmented(4).codes(20 + 16 * mode).addresses(1, 128), NOTHING);
        }
    }

    private static void fewerBytes() {
        int[] source = {4, 5};
        either("none of one", false, source, new Window(1), NOTHING);
        either("one of two by an ADD", false, source, new Window(2).data(5).codes(2), NOTHING);
        either("three of four by a RUN", false, source, new Window(4).data(5).codes(0, 3), NOTHING);
        either("four of five by a COPY", false, source, segmented(5).codes(20).addresses(0), NOTHING);
        either("five of six by a pair", false, source, segmented(6).data(5).codes(163).addresses(0), NOTHING);
        either("397 of 398", false, source, new Window(398).data(5).codes(0, 131, 13), NOTHING);
        Decoding.ill("the next window does not make what one lacks", source, Rows.delta(new Window(2).data(5).codes(2).bytes(), add(6)));
        Decoding.ill("the window before does not make it", source, Rows.delta(add(5, 6), new Window(2).data(5).codes(2).bytes()));
    }

    /** What is wrong is not made good by what follows. */
    private static void notMadeGood() {
        int[] source = {4, 5};
        either("an ADD that has too few data, and a RUN that uses them", false, source, new Window(2).data(5).codes(3, 0, 2), NOTHING);
        either("a RUN without data, and a COPY in its place", false, source, segmented(2).codes(0, 2, 19, 2).addresses(0), NOTHING);
        either("a COPY from here, and a right one", false, source, segmented(4).codes(20, 20).addresses(2, 0), NOTHING);
        either("a COPY without address, and an ADD in its place", false, source, segmented(4).data(1, 2, 3, 4).codes(20, 5), NOTHING);
        either("too many by an ADD, and the right number by another", false, source, new Window(1).data(5).codes(3, 2), NOTHING);
        either("ADD, then COPY from here, and a right one", false, source, new Window(5).data(9).codes(163, 20).addresses(1, 0), NOTHING);
        either("COPY, then ADD without data, and a COPY in its place", false, source, segmented(5).codes(247, 19, 1).addresses(0, 0), NOTHING);
        either("COPY, then ADD that is too much, and nothing else", false, source, segmented(4).codes(247).addresses(0), NOTHING);
        Window segment = segmented(4).codes(20).addresses(0);
        Decoding.ill("the segment of the window before is gone", source,
                Rows.delta(segment.bytes(), new Window(4).codes(20).addresses(0).bytes()));
        Decoding.good("an ADD has something to copy", source,
                Rows.delta(segment.bytes(), new Window(5).data(9).codes(163).addresses(0).bytes()), 4, 5, 4, 5, 9, 9, 9, 9, 9);
        Decoding.ill("a byte behind the last window", source, Rows.delta(add(1), Rows.of(0)));
        for (int place = 0; place < 3; place++) {
            Window window = new Window(1).data(5).codes(2).with(Window.DATA_SIZE + place, Window.integer(2147483648L));
            Decoding.ill("a number of bytes that is no integer", source, Rows.delta(window.bytes()));
        }
    }
}
