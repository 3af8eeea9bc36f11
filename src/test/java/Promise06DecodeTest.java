import java.util.Arrays;

/** Promise 6: decode, and every way in which a delta can be ill formed or too long. */
public final class Promise06DecodeTest {
    private static final int[] NOTHING = {};
    private static final int ILLFORMED = DeltaWindows.ILLFORMED;
    private static final int TOOLONG = DeltaWindows.TOOLONG;
    private static final int[] MOST = {135, 255, 255, 255, 127};
    private static final int[] BEYOND = {136, 128, 128, 128, 0};

    public static void main(String[] args) {
        wrongBounds();
        heads();
        instructions();
        addressModes();
        segments();
        windowBytes();
        integers();
        followingBytes();
        sizes();
        addresses();
        partsOfTheWindow();
        refusedAtOnce();
        windowOfNoBytes();
        tooLong();
        cutAnywhere();
        refusedChangesNothing();
        greatOutput();
        Check.end();
    }

    /** Decodes on an object that has decoded something else before, which a refused delta must leave. */
    private static void decode(String what, int[] source, int[] delta, int bound, int want, int... output) {
        DeltaWindows x = Rows.with(Rows.text("q"), Rows.delta(add(7, 8, 9)));
        Check.due("before " + what, x.decode(3), 3);
        Rows.fill(x, Rows.SOURCE, source);
        Rows.fill(x, Rows.DELTA, delta);
        Check.due(what + ": decode(" + bound + ")", x.decode(bound), want);
        Check.row(what, x, Rows.OUTPUT, want < 0 ? Rows.of(7, 8, 9) : output);
        Check.row(what, x, Rows.DELTA, delta);
    }

    private static void good(String what, int[] source, int[] delta, int... output) {
        decode(what, source, delta, output.length, output.length, output);
    }

    private static void ill(String what, int[] source, int[] delta) {
        decode(what, source, delta, 400, ILLFORMED);
    }

    private static int[] add(int... data) {
        return Rows.window(data.length, data, Rows.of(1 + data.length), NOTHING);
    }

    private static void wrongBounds() {
        DeltaWindows x = Rows.with(NOTHING, Rows.HEAD);
        for (int bound : new int[] {-1, 401, Integer.MIN_VALUE, Integer.MAX_VALUE}) {
            Check.due("decode(" + bound + ")", x.decode(bound), DeltaWindows.BAD);
        }
        Check.due("decode(0)", x.decode(0), 0);
        Check.due("decode(400)", x.decode(400), 0);
        x = Rows.with(NOTHING, Rows.of(1));
        Check.due("a bad bound goes before an ill formed delta", x.decode(401), DeltaWindows.BAD);
    }

    private static void heads() {
        good("the head alone", NOTHING, Rows.HEAD);
        for (int n = 0; n < 5; n++) {
            ill("a head of " + n, NOTHING, Arrays.copyOf(Rows.HEAD, n));
            int[] head = Rows.HEAD.clone();
            head[n] ^= 1;
            ill("a wrong byte " + n + " in the head", NOTHING, Rows.join(head, add(1)));
        }
    }

    private static void instructions() {
        good("ADD", NOTHING, Rows.delta(add(5, 0, 255)), 5, 0, 255);
        good("ADD with its size", NOTHING, Rows.delta(Rows.window(2, Rows.of(1, 2), Rows.of(1, 2), NOTHING)), 1, 2);
        good("RUN", NOTHING, Rows.delta(Rows.window(5, Rows.of(9), Rows.of(0, 5), NOTHING)), 9, 9, 9, 9, 9);
        good("RUN of 1", NOTHING, Rows.delta(Rows.window(1, Rows.of(9), Rows.of(0, 1), NOTHING)), 9);
        good("COPY of 1 with its size", Rows.of(4, 5, 6),
                Rows.delta(Rows.window(1, 3, 0, Rows.body(1, NOTHING, Rows.of(19, 1), Rows.of(2)))), 6);
        good("COPY that goes over the segment's end", Rows.of(4, 5, 6),
                Rows.delta(Rows.window(1, 3, 0, Rows.body(7, NOTHING, Rows.of(19, 7), Rows.of(1)))), 5, 6, 5, 6, 5, 6, 5);
        good("ADD then COPY of one code", NOTHING,
                Rows.delta(Rows.window(6, Rows.of(1, 2), Rows.of(166), Rows.of(0))), 1, 2, 1, 2, 1, 2);
        good("COPY then ADD of one code", Rows.of(4),
                Rows.delta(Rows.window(1, 1, 0, Rows.body(5, Rows.of(8), Rows.of(247), Rows.of(0)))), 4, 4, 4, 4, 8);
        good("two windows", NOTHING, Rows.delta(add(1, 2), add(3)), 1, 2, 3);
        good("the second window has no part in the first one's string", NOTHING,
                Rows.delta(add(1, 2), Rows.window(5, Rows.of(9), Rows.of(163), Rows.of(0))), 1, 2, 9, 9, 9, 9, 9);
        good("a window of no bytes", NOTHING, Rows.delta(Rows.window(0, NOTHING, NOTHING, NOTHING)));
        for (int code = 2; code <= 18; code++) {
            int[] data = new int[code - 1];
            Arrays.fill(data, code);
            good("code " + code, NOTHING, Rows.delta(add(data)), data);
        }
    }

    private static void addressModes() {
        int[] source = new int[48];
        for (int i = 0; i < 48; i++) {
            source[i] = 100 + i;
        }
        int[] four = Rows.of(110, 111, 112, 113);
        // COPYs of 4 by the modes 0 to 8; 10 is the address of each but the last two.
        int[] codes = {20, 36, 52, 68, 84, 100, 116, 132, 148};
        int[] addresses = {10, 42, 0, 0, 0, 0, 10, 3, 255};
        int[] output = Rows.join(four, four, four, four, four, four, four, Rows.of(100, 101, 102, 103, 100, 101, 102, 103));
        good("all modes", source, Rows.delta(Rows.window(1, 48, 0, Rows.body(36, NOTHING, codes, addresses))), output);
        // The fifth COPY takes NEAR 0 again and the sixth NEAR 1, so that mode 2 leans on 5, mode 3 on 6, mode 5 on 4.
        good("NEAR in turn", source,
                Rows.delta(Rows.window(1, 48, 0, Rows.body(32, NOTHING,
                        Rows.of(20, 20, 20, 20, 20, 52, 68, 100), Rows.of(1, 2, 3, 4, 5, 1, 4, 4)))),
                Rows.join(up(101), up(102), up(103), up(104), up(105), up(106), up(110), up(108)));
        int[] window = Rows.window(1, 48, 0, Rows.body(8, NOTHING, Rows.of(20, 52), Rows.of(7, 1)));
        int[] leaning = Rows.window(1, 48, 0, Rows.body(8, NOTHING, Rows.of(52, 116), Rows.of(6, 7)));
        good("caches are 0 when a window begins", source, Rows.delta(window, leaning),
                Rows.join(up(107), up(108), up(106), up(100)));
        int[] third = Rows.window(1, 48, 0, Rows.body(12, NOTHING, Rows.of(20, 52, 68), Rows.of(7, 1, 2)));
        good("NEAR begins anew with a window", source, Rows.delta(window, third),
                Rows.join(up(107), up(108), up(107), up(108), up(110)));
        good("SAME of an address beyond 255", source, farWindow(),
                Rows.join(fill(1, 255), Rows.of(2, 3, 4, 5, 6), Rows.of(2, 3, 4, 5), Rows.of(3), Rows.of(3, 4, 5)));
    }

    /** A RUN of 255, ADD 2 3 4 5 6, COPY from 255 and from 256, the last one by mode 7 after mode 0. */
    private static int[] farWindow() {
        int[] data = {1, 2, 3, 4, 5, 6};
        int[] codes = {0, 129, 127, 6, 36, 19, 1, 132 - 1, 3};
        int[] addresses = {5, 130, 0, 0};
        int following = 2 + 1 + 3 + data.length + codes.length + addresses.length;
        int[] head = {0, following, 130, 12, 0, data.length, codes.length, addresses.length};
        return Rows.delta(Rows.join(head, data, codes, addresses));
    }

    private static int[] up(int from) {
        return Rows.of(from, from + 1, from + 2, from + 3);
    }

    private static int[] fill(int b, int n) {
        int[] bytes = new int[n];
        Arrays.fill(bytes, b);
        return bytes;
    }

    private static void segments() {
        int[] source = {1, 2, 3, 4, 5};
        int[] body = Rows.body(2, NOTHING, Rows.of(19, 2), Rows.of(0));
        good("a part of the source", source, Rows.delta(Rows.window(1, 2, 3, body)), 4, 5);
        ill("a source segment that ends beyond", source, Rows.delta(Rows.window(1, 2, 4, body)));
        ill("a source segment that is too long", source, Rows.delta(Rows.window(1, 6, 0, body)));
        good("a part of the output", source, Rows.delta(add(7, 8, 9), Rows.window(2, 2, 1, body)), 7, 8, 9, 8, 9);
        ill("an output segment that ends beyond", source, Rows.delta(add(7, 8, 9), Rows.window(2, 2, 2, body)));
        ill("an output segment in the first window", source, Rows.delta(Rows.window(2, 1, 0, body)));
        good("the output of two windows", source,
                Rows.delta(add(7, 8), add(9), Rows.window(2, 2, 1, body)), 7, 8, 9, 8, 9);
        int[] run = Rows.body(2, Rows.of(6), Rows.of(0, 2), NOTHING);
        good("a segment of no bytes at the source's end", source, Rows.delta(Rows.window(1, 0, 5, run)), 6, 6);
        ill("a segment of no bytes beyond the source's end", source, Rows.delta(Rows.window(1, 0, 6, run)));
        good("a segment of no bytes in no output", source, Rows.delta(Rows.window(2, 0, 0, run)), 6, 6);
        ill("a segment of no bytes beyond the output's end", source, Rows.delta(Rows.window(2, 0, 1, run)));
        good("a segment of no bytes of no source", NOTHING, Rows.delta(Rows.window(1, 0, 0, run)), 6, 6);
        ill("a segment whose end is beyond int", source, Rows.delta(Rows.join(Rows.of(1), MOST, MOST, run)));
        ill("a segment whose end wraps round", source, Rows.delta(Rows.join(Rows.of(1, 5), MOST, run)));
        ill("the output that was there before is not the delta's", source,
                Rows.delta(Rows.window(2, 3, 0, Rows.body(3, NOTHING, Rows.of(19, 3), Rows.of(0)))));
    }

    private static void windowBytes() {
        int[] body = Rows.body(2, Rows.of(6), Rows.of(0, 2), NOTHING);
        for (int first : new int[] {3, 4, 5, 6, 128, 255}) {
            ill("a window's first byte " + first, Rows.of(1), Rows.delta(Rows.window(first, 0, 0, body)));
            ill("a window's first byte " + first, Rows.of(1), Rows.delta(Rows.join(Rows.of(first), body)));
        }
        for (int behind : new int[] {1, 2, 128, 255}) {
            ill("the byte " + behind + " behind the length", NOTHING,
                    Rows.delta(Rows.of(0, 8, 2, behind, 1, 2, 0, 6, 0, 2)));
        }
    }

    private static void integers() {
        // A window of one ADD, each of its integers with bytes 128 in front.
        int[] zeros = {128, 128, 128, 128};
        for (int more = 0; more <= 5; more++) {
            int[] front = more <= 4 ? Arrays.copyOf(zeros, more) : Rows.join(zeros, Rows.of(128));
            int[] one = Rows.join(front, Rows.of(1));
            int[] none = Rows.join(front, Rows.of(0));
            int inner = 1 + 4 * (more + 1) + 3 + more;
            int[] delta = Rows.delta(Rows.join(Rows.of(1), one, none, front, Rows.of(inner), one, Rows.of(0),
                    one, Rows.join(front, Rows.of(2 + more)), none, Rows.of(77, 1), one));
            decode(more + " bytes 128 in front", Rows.of(3), delta, 1, more <= 4 ? 1 : ILLFORMED, 77);
        }
        decode("the greatest length", NOTHING, Rows.delta(Rows.join(Rows.of(0, 9), MOST)), 400, TOOLONG);
        decode("a length beyond int", NOTHING, Rows.delta(Rows.join(Rows.of(0, 9), BEYOND)), 400, ILLFORMED);
        decode("a length far beyond int", NOTHING, Rows.delta(Rows.of(0, 9, 255, 255, 255, 255, 127)), 400, ILLFORMED);
        decode("a length of six bytes", NOTHING, Rows.delta(Rows.of(0, 9, 128, 128, 128, 128, 128, 127)), 400, ILLFORMED);
        decode("a following number beyond int", NOTHING, Rows.delta(Rows.join(Rows.of(0), BEYOND, Rows.of(9))), 1, ILLFORMED);
        decode("the greatest following number", NOTHING, Rows.delta(Rows.join(Rows.of(0), MOST, Rows.of(9))), 1, TOOLONG);
        ill("a segment's length beyond int", Rows.of(1), Rows.delta(Rows.join(Rows.of(1), BEYOND, Rows.of(0))));
        ill("a segment's place beyond int", Rows.of(1), Rows.delta(Rows.join(Rows.of(1, 0), BEYOND)));
        for (int k = 0; k < 3; k++) {
            int[][] three = {Rows.of(1), Rows.of(1), Rows.of(0)};
            three[k] = BEYOND;
            ill("a number of bytes beyond int", NOTHING,
                    Rows.delta(Rows.join(Rows.of(0, 11, 1, 0), Rows.join(three), Rows.of(5, 2))));
            three[k] = MOST;
            ill("the greatest number of bytes", NOTHING,
                    Rows.delta(Rows.join(Rows.of(0, 11, 1, 0), Rows.join(three), Rows.of(5, 2))));
        }
        ill("a size of six bytes", NOTHING, Rows.delta(Rows.window(1, Rows.of(5), Rows.of(1, 128, 128, 128, 128, 128, 1), NOTHING)));
        good("a size of five bytes", NOTHING, Rows.delta(Rows.window(1, Rows.of(5), Rows.of(1, 128, 128, 128, 128, 1), NOTHING)), 5);
        good("an address of five bytes", Rows.of(1, 2),
                Rows.delta(Rows.window(1, 2, 0, Rows.body(1, NOTHING, Rows.of(19, 1), Rows.of(128, 128, 128, 128, 1)))), 2);
        ill("an address of six bytes", Rows.of(1, 2),
                Rows.delta(Rows.window(1, 2, 0, Rows.body(1, NOTHING, Rows.of(19, 1), Rows.of(128, 128, 128, 128, 128, 1)))));
        int[] wide = fill(1, 200);
        good("integers of two bytes", NOTHING,
                Rows.delta(Rows.join(Rows.of(0, 129, 82, 129, 72, 0, 129, 72, 3, 0), wide, Rows.of(1, 129, 72))), wide);
    }

    private static void followingBytes() {
        for (int n = 0; n < 128; n++) {
            decode("following bytes " + n, NOTHING, Rows.delta(Rows.of(0, n, 1, 0, 1, 1, 0, 5, 2)), 1,
                    n == 7 ? 1 : ILLFORMED, 5);
        }
        ill("more following bytes than there are", NOTHING, Rows.delta(Rows.of(0, 8, 1, 0, 1, 1, 1, 5, 2)));
        ill("the next window's bytes are not its own", NOTHING, Rows.delta(Rows.of(0, 8, 1, 0, 1, 1, 0, 5, 2), add(1)));
        ill("the numbers' sum wraps round", NOTHING,
                Rows.delta(Rows.join(Rows.of(0, 13, 1, 0), MOST, MOST, Rows.of(4), Rows.of(5, 2))));
    }

    private static void sizes() {
        ill("ADD of size 0", NOTHING, Rows.delta(Rows.window(1, Rows.of(5), Rows.of(1, 0, 2), NOTHING)));
        ill("RUN of size 0", NOTHING, Rows.delta(Rows.window(1, Rows.of(6, 5), Rows.of(0, 0, 2), NOTHING)));
        ill("COPY of size 0", Rows.of(4), Rows.delta(Rows.window(1, 1, 0, Rows.body(1, Rows.of(5), Rows.of(2, 19, 0), Rows.of(0)))));
        ill("a size 0 in a window of no bytes", NOTHING, Rows.delta(Rows.window(0, NOTHING, Rows.of(1, 0), NOTHING)));
        ill("ADD of too many", NOTHING, Rows.delta(Rows.window(1, Rows.of(5, 6), Rows.of(3), NOTHING)));
        ill("RUN of too many", NOTHING, Rows.delta(Rows.window(3, Rows.of(5), Rows.of(0, 4), NOTHING)));
        ill("COPY of too many", Rows.of(4), Rows.delta(Rows.window(1, 1, 0, Rows.body(3, NOTHING, Rows.of(20), Rows.of(0)))));
        ill("too many by the second instruction", NOTHING, Rows.delta(Rows.window(4, Rows.of(5), Rows.of(163), Rows.of(0))));
        ill("too many by the added byte", Rows.of(4),
                Rows.delta(Rows.window(1, 1, 0, Rows.body(4, Rows.of(5), Rows.of(247), Rows.of(0)))));
        ill("a size that is far too great", NOTHING, Rows.delta(Rows.window(1, Rows.of(5), Rows.join(Rows.of(0), MOST), NOTHING)));
        ill("fewer bytes than the length", NOTHING, Rows.delta(Rows.window(2, Rows.of(5), Rows.of(2), NOTHING)));
        ill("no bytes where the length is 1", NOTHING, Rows.delta(Rows.window(1, NOTHING, NOTHING, NOTHING)));
        ill("the next window does not make what one lacks", NOTHING, Rows.delta(Rows.window(2, Rows.of(5), Rows.of(2), NOTHING), add(6)));
    }

    private static void addresses() {
        int[] source = {4, 5};
        address("mode 0, the last byte", source, 19, Rows.of(1), 5);
        address("mode 0, here", source, 19, Rows.of(2), -1);
        address("mode 0, the greatest", source, 19, MOST, -1);
        address("mode 1, the last byte", source, 35, Rows.of(1), 5);
        address("mode 1, the first byte", source, 35, Rows.of(2), 4);
        address("mode 1, here", source, 35, Rows.of(0), -1);
        address("mode 1, below 0", source, 35, Rows.of(3), -1);
        address("mode 1, far below 0", source, 35, MOST, -1);
        for (int mode = 2; mode <= 5; mode++) {
            address("mode " + mode + ", the last byte", source, 19 + 16 * mode, Rows.of(1), 5);
            address("mode " + mode + ", here", source, 19 + 16 * mode, Rows.of(2), -1);
        }
        for (int mode = 6; mode <= 8; mode++) {
            address("mode " + mode, source, 19 + 16 * mode, Rows.of(200), 4);
        }
        // NEAR 0 is 1, so that its sum with the greatest integer is beyond int.
        ill("a near address beyond int", source,
                Rows.delta(Rows.window(1, 2, 0, Rows.body(2, NOTHING, Rows.of(19, 1, 51, 1), Rows.join(Rows.of(1), MOST)))));
        for (int mode = 0; mode <= 8; mode++) {
            ill("mode " + mode + " where the string is empty", source,
                    Rows.delta(Rows.window(4, NOTHING, Rows.of(20 + 16 * mode), Rows.of(0))));
        }
        ill("a later window's string is its own", source,
                Rows.delta(add(1, 2, 3, 4), Rows.window(4, NOTHING, Rows.of(20), Rows.of(0))));
        good("SAME that is not below 128 is one byte", source,
                Rows.delta(Rows.window(1, 2, 0, Rows.body(4, NOTHING, Rows.of(116), Rows.of(255)))), 4, 5, 4, 5);
    }

    /** A window of one COPY of size 1 with the whole source; below 0 when it is to be refused. */
    private static void address(String what, int[] source, int code, int[] bytes, int want) {
        int[] delta = Rows.delta(Rows.window(1, source.length, 0, Rows.body(1, NOTHING, Rows.of(code, 1), bytes)));
        if (want < 0) {
            ill(what, source, delta);
        } else {
            good(what, source, delta, want);
        }
    }

    private static void partsOfTheWindow() {
        int[] source = {4, 5};
        ill("ADD without data", NOTHING, Rows.delta(Rows.window(1, NOTHING, Rows.of(2), NOTHING)));
        ill("ADD with too few data", NOTHING, Rows.delta(Rows.window(2, Rows.of(1), Rows.of(3), NOTHING)));
        ill("ADD must not take the codes for data", NOTHING, Rows.delta(Rows.window(3, Rows.of(1), Rows.of(1, 3), NOTHING)));
        ill("RUN without data", NOTHING, Rows.delta(Rows.window(2, NOTHING, Rows.of(0, 2), NOTHING)));
        ill("data that are not used", NOTHING, Rows.delta(Rows.window(1, Rows.of(1, 2), Rows.of(2), NOTHING)));
        ill("data in a window of no bytes", NOTHING, Rows.delta(Rows.window(0, Rows.of(1), NOTHING, NOTHING)));
        ill("a size that is lacking", NOTHING, Rows.delta(Rows.window(1, Rows.of(1), Rows.of(1), NOTHING)));
        ill("a size that ends too soon", NOTHING, Rows.delta(Rows.window(1, Rows.of(1), Rows.of(1, 128), NOTHING)));
        ill("a size must not come from the addresses", source,
                Rows.delta(Rows.window(1, 2, 0, Rows.body(1, NOTHING, Rows.of(19), Rows.of(1, 1)))));
        ill("a code more", NOTHING, Rows.delta(Rows.window(1, Rows.of(1), Rows.of(2, 2), NOTHING)));
        ill("an instruction in a window of no bytes", NOTHING, Rows.delta(Rows.window(0, NOTHING, Rows.of(2), NOTHING)));
        for (int mode = 0; mode <= 8; mode++) {
            ill("no address for mode " + mode, source,
                    Rows.delta(Rows.window(1, 2, 0, Rows.body(4, NOTHING, Rows.of(20 + 16 * mode), NOTHING)), add(1)));
        }
        ill("an address that ends too soon", source,
                Rows.delta(Rows.window(1, 2, 0, Rows.body(4, NOTHING, Rows.of(20), Rows.of(128))), add(1)));
        ill("addresses that are not used", NOTHING, Rows.delta(Rows.window(1, Rows.of(1), Rows.of(2), Rows.of(0))));
        ill("an address that is not used", source,
                Rows.delta(Rows.window(1, 2, 0, Rows.body(4, NOTHING, Rows.of(20), Rows.of(0, 0)))));
        ill("a byte behind the window", NOTHING, Rows.delta(add(1), Rows.of(0)));
    }

    /** What is wrong is not made good by what follows. */
    private static void refusedAtOnce() {
        int[] source = {4, 5};
        ill("an ADD that has too few data, and a RUN that uses them", NOTHING,
                Rows.delta(Rows.window(2, Rows.of(5), Rows.of(3, 0, 2), NOTHING)));
        ill("a RUN without data, and a COPY in its place", source,
                Rows.delta(Rows.window(1, 2, 0, Rows.body(2, NOTHING, Rows.of(0, 2, 19, 2), Rows.of(0)))));
        ill("a COPY from here, and a right one", source,
                Rows.delta(Rows.window(1, 2, 0, Rows.body(4, NOTHING, Rows.of(20, 20), Rows.of(2, 0)))));
        ill("a COPY without address, and an ADD in its place", source,
                Rows.delta(Rows.window(1, 2, 0, Rows.body(4, Rows.of(1, 2, 3, 4), Rows.of(20, 5), NOTHING))));
        int[] run = Rows.body(2, Rows.of(6), Rows.of(0, 2), NOTHING);
        ill("a segment's length beyond int, at place 1", source, Rows.delta(Rows.join(Rows.of(1), BEYOND, Rows.of(1), run)));
        ill("a segment's place beyond int, of length 1", source, Rows.delta(Rows.join(Rows.of(1, 1), BEYOND, run)));
        for (int k = 0; k < 3; k++) {
            int[][] three = {Rows.of(0), Rows.of(0), Rows.of(0)};
            three[k] = BEYOND;
            for (int following = 7; following <= 10; following++) {
                ill("a number of bytes beyond int in a window of no bytes", source,
                        Rows.delta(Rows.join(Rows.of(0, following, 0, 0), Rows.join(three), Rows.of(5, 0, 0, 0, 0, 0))));
            }
        }
        int[] segmented = Rows.window(1, 2, 0, Rows.body(4, NOTHING, Rows.of(20), Rows.of(0)));
        ill("the segment of the window before is gone", source,
                Rows.delta(segmented, Rows.window(4, NOTHING, Rows.of(20), Rows.of(0))));
        good("a window without segment behind one that has one", source,
                Rows.delta(segmented, Rows.window(5, Rows.of(9), Rows.of(163), Rows.of(0))), 4, 5, 4, 5, 9, 9, 9, 9, 9);
    }

    private static void windowOfNoBytes() {
        int[] window = Rows.window(0, NOTHING, NOTHING, NOTHING);
        for (int n = 1; n < window.length; n++) {
            ill("a window of no bytes that is cut to " + n, NOTHING, Rows.delta(Arrays.copyOf(window, n)));
        }
        for (int n = 0; n < 20; n++) {
            decode("a window of no bytes with following " + n, NOTHING, Rows.delta(Rows.of(0, n, 0, 0, 0, 0, 0)), 0,
                    n == 5 ? 0 : ILLFORMED);
        }
        for (int last : new int[] {1, 2, 255}) {
            ill("no bytes, and the byte " + last + " behind the length", NOTHING, Rows.delta(Rows.of(0, 2, 0, last)));
            ill("no bytes, and the byte " + last + " behind the length", NOTHING, Rows.delta(Rows.of(0, 5, 0, last, 0, 0, 0)));
        }
        ill("no bytes, and an integer that ends too soon", NOTHING, Rows.delta(Rows.of(0, 5, 0, 0, 0, 0, 128)));
    }

    private static void tooLong() {
        int[] three = Rows.delta(add(1, 2), add(3));
        for (int bound = 0; bound <= 4; bound++) {
            decode("three bytes", NOTHING, three, bound, bound < 3 ? TOOLONG : 3, 1, 2, 3);
        }
        decode("nothing behind the length", NOTHING, Rows.delta(Rows.of(0, 9, 4)), 3, TOOLONG);
        decode("nothing behind the length, which is right", NOTHING, Rows.delta(Rows.of(0, 9, 4)), 4, ILLFORMED);
        decode("too long goes before the byte behind", NOTHING, Rows.delta(Rows.of(0, 9, 4, 1, 0, 0, 0)), 3, TOOLONG);
        decode("too long goes before the following bytes", NOTHING, Rows.delta(Rows.of(0, 99, 4, 0, 0, 0, 0)), 3, TOOLONG);
        decode("too long goes before the instructions", NOTHING, Rows.delta(Rows.window(4, NOTHING, Rows.of(1, 0), NOTHING)), 3, TOOLONG);
        decode("a wrong segment goes before too long", Rows.of(1), Rows.delta(Rows.of(1, 2, 0, 9, 4, 0, 0, 0, 0)), 3, ILLFORMED);
        decode("a wrong first byte goes before too long", Rows.of(1), Rows.delta(Rows.of(3, 1, 0, 9, 4, 0, 0, 0, 0)), 3, ILLFORMED);
        decode("a wrong head goes before too long", NOTHING, Rows.join(Rows.of(214, 195, 196, 0, 1), add(1, 2, 3)), 1, ILLFORMED);
        decode("an ill formed window before", NOTHING,
                Rows.delta(Rows.window(1, Rows.of(5), Rows.of(3), NOTHING), add(1, 2, 3)), 2, ILLFORMED);
        decode("too long before an ill formed window", NOTHING,
                Rows.delta(add(1, 2, 3), Rows.window(1, Rows.of(5), Rows.of(3), NOTHING)), 2, TOOLONG);
        decode("a window of no bytes is never too long", NOTHING,
                Rows.delta(add(1), Rows.window(0, NOTHING, NOTHING, NOTHING)), 1, 1, 1);
        decode("the sum is beyond int", NOTHING, Rows.delta(Rows.join(add(1), Rows.of(0, 9), MOST)), 400, TOOLONG);
    }

    /** A delta that is cut within a window is ill formed; between windows it is not. */
    private static void cutAnywhere() {
        int[] first = Rows.window(1, 2, 1, Rows.body(6, Rows.of(1, 2), Rows.of(1, 2, 19, 4), Rows.of(0)));
        int[] second = Rows.window(2, 3, 2, Rows.body(9, Rows.of(3, 4), Rows.of(0, 4, 247), Rows.of(128, 1)));
        int[] delta = Rows.delta(first, second);
        for (int n = 0; n <= delta.length; n++) {
            DeltaWindows x = Rows.with(Rows.of(7, 8, 9), Arrays.copyOf(delta, n));
            int want = n == 5 ? 0 : n == 5 + first.length ? 6 : n == delta.length ? 15 : ILLFORMED;
            Check.due("cut to " + n, x.decode(400), want);
        }
        good("the whole of it", Rows.of(7, 8, 9), delta, 1, 2, 8, 9, 1, 2, 3, 3, 3, 3, 9, 1, 3, 3, 4);
    }

    private static void refusedChangesNothing() {
        int[] source = {4, 5, 6, 7};
        int[] copy = Rows.window(1, 4, 0, Rows.body(2, NOTHING, Rows.of(19, 2), Rows.of(2)));
        DeltaWindows x = Rows.with(source, Rows.delta(copy));
        Check.due("decode(2)", x.decode(2), 2);
        int[] other = Rows.window(1, 4, 0, Rows.body(3, NOTHING, Rows.of(19, 3), Rows.of(1)));
        for (int[] last : new int[][] {Rows.of(9), other}) {
            Rows.fill(x, Rows.DELTA, Rows.delta(other, last));
            Check.due("refused", x.decode(5), last == other ? TOOLONG : ILLFORMED);
            Check.row("refused", x, Rows.OUTPUT, 6, 7);
            Check.row("refused", x, Rows.SOURCE, source);
            Check.due("refused: windows()", x.windows(), 1);
            Check.due("refused: cache(1, 0)", x.cache(1, 0), 2);
            Check.due("refused: cache(1, 5)", x.cache(1, 5), 0);
            Check.due("refused: cache(1, 6)", x.cache(1, 6), 2);
        }
        Rows.fill(x, Rows.DELTA, Rows.delta(other, other));
        Check.due("not refused", x.decode(6), 6);
        Check.row("not refused", x, Rows.OUTPUT, 5, 6, 7, 5, 6, 7);
        Rows.fill(x, Rows.DELTA, Rows.HEAD);
        Check.due("the output becomes empty", x.decode(0), 0);
        Check.row("the output becomes empty", x, Rows.OUTPUT);
    }

    private static void greatOutput() {
        int[] run = {0, 10, 131, 16, 0, 1, 3, 0, 5, 0, 131, 16};
        good("a run of 400", NOTHING, Rows.delta(run), fill(5, 400));
        decode("400 and one more", NOTHING, Rows.delta(run, add(1)), 400, TOOLONG);
        ill("a run of 399 and an ADD of 2 in a window of 400", NOTHING,
                Rows.delta(Rows.of(0, 13, 131, 16, 0, 3, 4, 0, 5, 6, 7, 0, 131, 15, 3)));
        decode("400 where 399 are allowed", NOTHING, Rows.delta(run), 399, TOOLONG);
    }
}
