/** Terms: to encode, with deltas worked out by hand. */
public final class TermsEncodeTest {
    private static final String WHERE = "Terms, to encode";
    private static final int[] NOTHING = {};
    private static final int[] SOURCE = Rows.up(0, 48);

    public static void main(String[] args) {
        Check.sentence(WHERE, "TO ENCODE the target in pieces of w bytes (the last one may have fewer)", TermsEncodeTest::pieces);
        Check.sentence(WHERE, "the delta becomes the head of five bytes and for each piece a window", TermsEncodeTest::noPiece);
        Check.sentence(WHERE, "with the whole source as its segment (without, when the source is empty)", TermsEncodeTest::segment);
        Check.sentence(WHERE, "whose instructions are found from the piece's first byte on", TermsEncodeTest::eachPieceAnew);
        Check.sentence(WHERE, "with L the greatest n for which some address less than here gives", TermsEncodeTest::longestCopy);
        Check.sentence(WHERE, "the next n bytes of the piece (0 when there is none)", TermsEncodeTest::copyEndsWithThePiece);
        Check.sentence(WHERE, "R the number of bytes of the piece from this one on that are all the same", TermsEncodeTest::runEndsWithThePiece);
        Check.sentence(WHERE, "if R is 4 or more", TermsEncodeTest::runOfFour);
        Check.sentence(WHERE, "and not less than L, they are a RUN of size R", TermsEncodeTest::runAgainstCopy);
        Check.sentence(WHERE, "else, if L is 4 or more, they are a COPY of size L", TermsEncodeTest::copyOfFour);
        Check.sentence(WHERE, "with the least such address", TermsEncodeTest::leastAddress);
        Check.sentence(WHERE, "else the byte is part of an ADD. Bytes of ADDs that stand side by side are one ADD.", TermsEncodeTest::adds);
        Check.sentence(WHERE, "An address a is written in the mode 6 + (a modulo 768) / 256 (whole) when SAME(a modulo 768) is a",
                TermsEncodeTest::modeOfSame);
        Check.sentence(WHERE, "else in that of the modes 0 .. 5 whose integer is the least", TermsEncodeTest::leastInteger);
        Check.sentence(WHERE, "and not below 0", TermsEncodeTest::notBelowZero);
        Check.sentence(WHERE, "of several the least mode", TermsEncodeTest::leastMode);
        Check.sentence(WHERE, "Codes: from the first instruction on, the code for it and the next one together", TermsEncodeTest::pairsFromTheFirst);
        Check.sentence(WHERE + ", ADD then COPY", "if there is one for just these kinds, sizes and mode", TermsEncodeTest::addThenCopy);
        Check.sentence(WHERE + ", COPY then ADD", "if there is one for just these kinds, sizes and mode", TermsEncodeTest::copyThenAdd);
        Check.sentence(WHERE, "else the code for it alone with its size; else that with size 0.", TermsEncodeTest::singleCodes);
        Check.end();
    }

    /** Encodes in one window and holds the whole delta against what is due. */
    private static Story one(String what, int[] source, int[] target, int[] data, int[] codes, int[] addresses) {
        Window window = new Window(target.length).data(data).codes(codes).addresses(addresses);
        if (source.length > 0) {
            window.from(1, source.length, 0);
        }
        return whole(what, source, target, 64, window.bytes());
    }

    private static Story whole(String what, int[] source, int[] target, int w, int[]... windows) {
        int[] delta = Rows.delta(windows);
        Story story = new Story(what).put(Rows.SOURCE, source).put(Rows.TARGET, target).then(Call.encode(w), delta.length);
        story.row(Rows.DELTA, delta).row(Rows.SOURCE, source).row(Rows.TARGET, target).row(Rows.OUTPUT);
        story.again().then(Call.decode(target.length), target.length).due(Call.agrees(), true).due(Call.windows(), windows.length);
        return story;
    }

    private static int[] add(int... data) {
        int n = data.length;
        return new Window(n).data(data).codes(n <= 17 ? Rows.of(1 + n) : Rows.of(1, n)).bytes();
    }

    private static void pieces() {
        for (int n : new int[] {0, 1, 2, 3, 32, 33, 63, 64}) {
            for (int w : new int[] {1, 2, 3, 31, 32, 33, 63, 64}) {
                int count = (n + w - 1) / w;
                int[][] windows = new int[count][];
                for (int k = 0; k < count; k++) {
                    windows[k] = add(Rows.up(1 + k * w, Math.min(w, n - k * w)));
                }
                whole(n + " bytes in pieces of " + w, NOTHING, Rows.up(1, n), w, windows);
            }
        }
    }

    private static void noPiece() {
        for (int w : new int[] {1, 64}) {
            whole("no target and no source", NOTHING, NOTHING, w);
            whole("no target", SOURCE, NOTHING, w).caches(0, new int[4]);
        }
        Stories.full().then(Call.cut(1, 0), true).then(Call.encode(64), 5).row(2, Rows.HEAD);
        Stories.full().then(Call.encode(64), 5 + 3 + 1 + 5 + 3).row(2, Rows.delta(Rows.of(1, 48, 0, 8, 64, 0, 1, 2, 0, 6, 0, 64)));
    }

    private static void segment() {
        for (int n : new int[] {0, 1, 2, 47, 48}) {
            int[] target = {200, 201, 202};
            one("a source of " + n, Rows.up(0, n), target, target, Rows.of(4), NOTHING);
            int[][] windows = new int[3][];
            for (int k = 0; k < 3; k++) {
                Window window = new Window(1).data(200 + k).codes(2);
                windows[k] = n == 0 ? window.bytes() : window.from(1, n, 0).bytes();
            }
            whole("a source of " + n + ", in each window", Rows.up(0, n), target, 1, windows);
        }
        new Story("a source that was emptied").put(0, 1, 2, 3, 4).then(Call.cut(0, 0), true).put(1, 1, 2, 3, 4)
                .then(Call.encode(64), 5 + 7 + 5).row(2, Rows.delta(add(1, 2, 3, 4)));
    }

    private static void eachPieceAnew() {
        whole("earlier pieces are not in the string", NOTHING, Rows.text("wxyzwxyz"), 4, add(Rows.text("wxyz")), add(Rows.text("wxyz")));
        int[] copy = new Window(4).from(1, 5, 0).codes(20).addresses(1).bytes();
        whole("each piece has caches of its own", Rows.text("-abcd"), Rows.text("abcdabcd"), 4, copy, copy);
        whole("an ADD does not go on", NOTHING, Rows.of(1, 2, 3, 4), 2, add(1, 2), add(3, 4));
    }

    private static void longestCopy() {
        one("the longer one, though it is not the least", Rows.text("abcdeXabcdef"), Rows.text("abcdef"), NOTHING, Rows.of(22), Rows.of(6));
        one("all of 48", SOURCE, SOURCE, NOTHING, Rows.of(115, 48), Rows.of(0));
        one("the first byte of the source", Rows.text("abcdX"), Rows.text("abcd"), NOTHING, Rows.of(116), Rows.of(0));
        one("up to the last byte of the source", Rows.text("Xabcd"), Rows.text("abcd"), NOTHING, Rows.of(20), Rows.of(1));
        one("beyond the last byte of the source", Rows.text("--abc"), Rows.text("abcabca"), NOTHING, Rows.of(19 + 4), Rows.of(2));
        one("of bytes that it appends", NOTHING, Rows.text("abababab"), Rows.text("ab"), Rows.of(3, 118), Rows.of(0));
        one("from the byte before the last", Rows.text("zab"), Rows.text("abababa"), NOTHING, Rows.of(19 + 4), Rows.of(1));
        one("from the window itself", Rows.text("z"), Rows.text("abcdeabcde"), Rows.text("abcde"), Rows.of(6, 21), Rows.of(1));
        int[] half = Rows.text("abababababababababababababababab");
        one("62 of bytes that it appends", NOTHING, Rows.join(half, half), Rows.text("ab"), Rows.of(3, 115, 62), Rows.of(0));
    }

    private static void copyEndsWithThePiece() {
        int[] source = Rows.text("-abcdefgh");
        int[] target = Rows.text("abcdefgh");
        int[] first = {1, 9, 0};
        for (int w = 4; w <= 8; w++) {
            int rest = 8 - w;
            int[] head = new Window(w).from(1, 9, 0).codes(19 + w - 3).addresses(1).bytes();
            if (rest == 0) {
                whole("one piece", source, target, w, head);
            } else if (rest == 4) {
                whole("two copies", source, target, w, head, new Window(4).from(1, 9, 0).codes(36).addresses(4).bytes());
            } else {
                int[] last = java.util.Arrays.copyOfRange(target, w, 8);
                whole("too few are left", source, target, w, head, new Window(rest).from(1, 9, 0).data(last).codes(1 + rest).bytes());
            }
        }
        whole("none of three", source, target, 3,
                Rows.join(first, Rows.body(3, Rows.text("abc"), Rows.of(4), NOTHING)),
                Rows.join(first, Rows.body(3, Rows.text("def"), Rows.of(4), NOTHING)),
                Rows.join(first, Rows.body(2, Rows.text("gh"), Rows.of(3), NOTHING)));
        one("no address at all", NOTHING, Rows.text("abcd"), Rows.text("abcd"), Rows.of(5), NOTHING);
        one("no address that fits", Rows.text("xyz"), Rows.text("abcd"), Rows.text("abcd"), Rows.of(5), NOTHING);
    }

    private static void runEndsWithThePiece() {
        int[] five = new Window(5).data('a').codes(0, 5).bytes();
        whole("eight in pieces of five", NOTHING, Rows.text("aaaaaaaa"), 5, five, add(Rows.text("aaa")));
        int[] four = new Window(4).data('a').codes(0, 4).bytes();
        whole("eight in pieces of four", NOTHING, Rows.text("aaaaaaaa"), 4, four, four);
        whole("eight in pieces of three", NOTHING, Rows.text("aaaaaaaa"), 3, add(Rows.text("aaa")), add(Rows.text("aaa")), add(Rows.text("aa")));
        one("to the piece's last byte", NOTHING, Rows.text("xyaaaa"), Rows.text("xya"), Rows.of(3, 0, 4), NOTHING);
        one("the source's bytes before it are none of them", Rows.text("aa"), Rows.text("aaa"), Rows.text("aaa"), Rows.of(4), NOTHING);
        one("of 64", NOTHING, Rows.same(255, 64), Rows.of(255), Rows.of(0, 64), NOTHING);
    }

    private static void runOfFour() {
        one("three", NOTHING, Rows.text("aaa"), Rows.text("aaa"), Rows.of(4), NOTHING);
        one("four", NOTHING, Rows.text("aaaa"), Rows.text("a"), Rows.of(0, 4), NOTHING);
        one("three and one more", NOTHING, Rows.text("aaab"), Rows.text("aaab"), Rows.of(5), NOTHING);
        one("four and one more", NOTHING, Rows.text("aaaab"), Rows.text("ab"), Rows.of(0, 4, 2), NOTHING);
        one("one run behind the other", NOTHING, Rows.text("xaaaabbbbby"), Rows.text("xaby"), Rows.of(2, 0, 4, 0, 5, 2), NOTHING);
    }

    private static void runAgainstCopy() {
        one("R is 4 and L is 3", Rows.text("xaaab"), Rows.text("aaaa"), Rows.text("a"), Rows.of(0, 4), NOTHING);
        one("R is 4 and L is 4", Rows.text("xaaaac"), Rows.text("aaaab"), Rows.text("ab"), Rows.of(0, 4, 2), NOTHING);
        one("R is 4 and L is 5", Rows.text("xaaaab"), Rows.text("aaaab"), NOTHING, Rows.of(21), Rows.of(1));
        one("R is 5 and L is 4", Rows.text("xaaaab"), Rows.text("aaaaa"), Rows.text("a"), Rows.of(0, 5), NOTHING);
        one("R is 5 and L is 5", Rows.text("xaaaaac"), Rows.text("aaaaa"), Rows.text("a"), Rows.of(0, 5), NOTHING);
        one("R is 5 and L is 6", Rows.text("xaaaaab"), Rows.text("aaaaab"), NOTHING, Rows.of(22), Rows.of(1));
        one("R is 3 and L is 4", Rows.text("xaaab"), Rows.text("aaab"), NOTHING, Rows.of(20), Rows.of(1));
        one("R is 3 and L is 3", Rows.text("xaaac"), Rows.text("aaab"), Rows.text("aaab"), Rows.of(5), NOTHING);
        one("R is 64 and L is 64", Rows.same('a', 48), Rows.same('a', 64), Rows.text("a"), Rows.of(0, 64), NOTHING);
    }

    private static void copyOfFour() {
        one("L is 3", Rows.text("xabc"), Rows.text("abcy"), Rows.text("abcy"), Rows.of(5), NOTHING);
        one("L is 4", Rows.text("xabcd"), Rows.text("abcdy"), Rows.text("y"), Rows.of(247), Rows.of(1));
        one("L is 3 to the piece's end", Rows.text("xabcd"), Rows.text("abc"), Rows.text("abc"), Rows.of(4), NOTHING);
        one("L is 4 to the piece's end", Rows.text("xabcd"), Rows.text("abcd"), NOTHING, Rows.of(20), Rows.of(1));
        one("L is 3, then 5, then 4", Rows.text("xabcde"), Rows.text("abcxabcdybcde"), Rows.text("abcy"), Rows.of(4, 117, 163), Rows.of(0, 2));
    }

    private static void leastAddress() {
        one("of two", Rows.text("zabcdXabcd"), Rows.text("abcd"), NOTHING, Rows.of(20), Rows.of(1));
        one("of three, two of them longer", Rows.text("zabcdXabcdeYabcde"), Rows.text("abcde"), NOTHING, Rows.of(21), Rows.of(6));
        one("in the source before the window", Rows.text("zabcd"), Rows.text("abcdXabcd"), Rows.text("X"),
                Rows.of(247, 116), Rows.of(1, 1));
        one("0", Rows.text("abcdXabcd"), Rows.text("abcd"), NOTHING, Rows.of(116), Rows.of(0));
    }

    private static void adds() {
        one("of 1", NOTHING, Rows.of(255), Rows.of(255), Rows.of(2), NOTHING);
        one("of 64", Rows.of(99), Rows.up(100, 64), Rows.up(100, 64), Rows.of(1, 64), NOTHING);
        one("bytes for several reasons", Rows.text("abc"), Rows.text("bcabccc"), Rows.text("bcabccc"), Rows.of(8), NOTHING);
        one("not over a RUN", NOTHING, Rows.text("xyaaaaz"), Rows.text("xyaz"), Rows.of(3, 0, 4, 2), NOTHING);
        one("not over a COPY", Rows.text("-abcde"), Rows.text("xyabcdez"), Rows.text("xyz"), Rows.of(167, 2), Rows.of(1));
    }

    private static void modeOfSame() {
        one("0 is in SAME(0) from the first on", SOURCE, Rows.up(0, 4), NOTHING, Rows.of(116), Rows.of(0));
        one("1 is not", SOURCE, Rows.up(1, 4), NOTHING, Rows.of(20), Rows.of(1));
        one("when it was copied from before", SOURCE, Rows.join(Rows.up(20, 4), Rows.up(20, 4)), NOTHING, Rows.of(20, 116), Rows.of(20, 20));
        one("not from the one beside it", SOURCE, Rows.join(Rows.up(20, 4), Rows.up(21, 4)), NOTHING, Rows.of(20, 52), Rows.of(20, 1));
        one("also when it is no longer in NEAR", SOURCE,
                Rows.join(Rows.up(20, 4), Rows.up(22, 4), Rows.up(24, 4), Rows.up(26, 4), Rows.up(28, 4), Rows.up(20, 4)),
                NOTHING, Rows.of(20, 52, 68, 84, 100, 116), Rows.of(20, 2, 2, 2, 2, 20));
        int[] far = Rows.up(100, 56);
        one("the greatest address that two copies can have", SOURCE, Rows.join(far, Rows.up(151, 4), Rows.up(151, 4)), far,
                Rows.of(1, 56, 36, 116), Rows.of(5, 99));
    }

    private static void leastInteger() {
        one("mode 0", SOURCE, Rows.up(20, 4), NOTHING, Rows.of(20), Rows.of(20));
        one("mode 0, just less than mode 1", SOURCE, Rows.up(23, 4), NOTHING, Rows.of(20), Rows.of(23));
        one("mode 1, just less than mode 0", SOURCE, Rows.up(25, 4), NOTHING, Rows.of(36), Rows.of(23));
        one("mode 1 at the source's end", SOURCE, Rows.up(44, 4), NOTHING, Rows.of(36), Rows.of(4));
        one("mode 2, just less than mode 1", SOURCE, Rows.join(Rows.up(20, 4), Rows.up(35, 4)), NOTHING, Rows.of(20, 52), Rows.of(20, 15));
        one("mode 1, just less than mode 2", SOURCE, Rows.join(Rows.up(20, 4), Rows.up(37, 4)), NOTHING, Rows.of(20, 36), Rows.of(20, 15));
        int[] target = Rows.join(Rows.up(20, 4), Rows.up(22, 4), Rows.up(25, 4), Rows.up(27, 4), Rows.up(30, 4), Rows.up(31, 4),
                Rows.up(20, 4), Rows.up(26, 4));
        one("modes 2, 3, 4 and 5", SOURCE, target, NOTHING, Rows.of(20, 52, 68, 84, 100, 52, 116, 84), Rows.of(20, 2, 3, 2, 3, 1, 20, 6));
        one("here counts what the window has made", NOTHING, Rows.text("01234567890123efghijefghij"),
                Rows.text("0123456789efghij"), Rows.of(11, 116, 7, 35 + 3), Rows.of(0, 6));
    }

    private static void notBelowZero() {
        one("NEAR is one more than the address", SOURCE, Rows.join(Rows.up(20, 4), Rows.up(19, 4)), NOTHING, Rows.of(20, 20), Rows.of(20, 19));
        one("NEAR is far more than the address", SOURCE, Rows.join(Rows.up(40, 4), Rows.up(2, 4)), NOTHING, Rows.of(36, 20), Rows.of(8, 2));
        int[] target = Rows.join(Rows.up(15, 4), Rows.up(21, 4), Rows.up(19, 4));
        one("one NEAR is more and one is less", SOURCE, target, NOTHING, Rows.of(20, 52, 52), Rows.of(15, 6, 4));
    }

    private static void leastMode() {
        one("0 and 1", SOURCE, Rows.up(24, 4), NOTHING, Rows.of(20), Rows.of(24));
        one("0 and all NEAR, which are 0", SOURCE, Rows.up(2, 4), NOTHING, Rows.of(20), Rows.of(2));
        // here is 52, and 52 - 36 is 36 - 20.
        one("1 and 2", SOURCE, Rows.join(Rows.up(20, 4), Rows.up(36, 4)), NOTHING, Rows.of(20, 36), Rows.of(20, 16));
        one("2 and 3", SOURCE, Rows.join(Rows.up(20, 4), Rows.up(20, 4), Rows.up(22, 4)), NOTHING, Rows.of(20, 116, 52), Rows.of(20, 20, 2));
        one("3 and 4", SOURCE, Rows.join(Rows.up(10, 4), Rows.up(20, 4), Rows.up(20, 4), Rows.up(22, 4)),
                NOTHING, Rows.of(20, 52, 116, 68), Rows.of(10, 10, 20, 2));
        one("4 and 5", SOURCE, Rows.join(Rows.up(10, 4), Rows.up(12, 4), Rows.up(20, 4), Rows.up(20, 4), Rows.up(22, 4)),
                NOTHING, Rows.of(20, 52, 68, 116, 84), Rows.of(10, 2, 8, 20, 2));
        one("2 and 5", SOURCE, Rows.join(Rows.up(20, 4), Rows.up(10, 4), Rows.up(12, 4), Rows.up(20, 4), Rows.up(22, 4)),
                NOTHING, Rows.of(20, 20, 68, 116, 52), Rows.of(20, 10, 2, 20, 2));
    }

    private static void pairsFromTheFirst() {
        one("ADD, COPY, ADD", SOURCE, Rows.join(Rows.up(100, 1), Rows.up(2, 4), Rows.up(101, 1)), Rows.up(100, 2), Rows.of(163, 2), Rows.of(2));
        one("COPY, ADD, COPY", SOURCE, Rows.join(Rows.up(2, 4), Rows.up(100, 1), Rows.up(3, 4)), Rows.up(100, 1), Rows.of(247, 52), Rows.of(2, 1));
        one("COPY, ADD, COPY, ADD", SOURCE, Rows.join(Rows.up(2, 4), Rows.up(100, 1), Rows.up(3, 4), Rows.up(101, 1)),
                Rows.up(100, 2), Rows.of(247, 249), Rows.of(2, 1));
        one("COPY of 5, ADD, COPY, ADD", SOURCE, Rows.join(Rows.up(2, 5), Rows.up(100, 1), Rows.up(3, 4), Rows.up(101, 1)),
                Rows.up(100, 2), Rows.of(21, 187, 2), Rows.of(2, 1));
        one("ADD of 5, COPY, ADD", SOURCE, Rows.join(Rows.up(100, 5), Rows.up(2, 4), Rows.up(105, 1)), Rows.up(100, 6), Rows.of(6, 247), Rows.of(2));
        one("ADD, RUN, ADD, COPY", SOURCE, Rows.join(Rows.up(100, 1), Rows.same(101, 5), Rows.up(102, 1), Rows.up(2, 5)),
                Rows.up(100, 3), Rows.of(2, 0, 5, 164), Rows.of(2));
        one("COPY at the end", SOURCE, Rows.up(2, 4), NOTHING, Rows.of(20), Rows.of(2));
        one("ADD at the end", SOURCE, Rows.up(100, 1), Rows.up(100, 1), Rows.of(2), NOTHING);
    }

    private static void addThenCopy() {
        for (int add = 1; add <= 5; add++) {
            for (int copy = 4; copy <= 7; copy++) {
                int[] data = Rows.up(100, add);
                boolean paired = add <= 4 && copy <= 6;
                int pair = 163 + 3 * (add - 1) + (copy - 4);
                one("ADD of " + add + ", COPY of " + copy + ", mode 0", SOURCE, Rows.join(data, Rows.up(2, copy)), data,
                        paired ? Rows.of(pair) : Rows.of(1 + add, 19 + copy - 3), Rows.of(2));
                one("ADD of " + add + ", COPY of " + copy + ", mode 1", SOURCE, Rows.join(data, Rows.up(40, copy)), data,
                        paired ? Rows.of(pair + 12) : Rows.of(1 + add, 35 + copy - 3), Rows.of(8 + add));
                boolean small = add <= 4 && copy == 4;
                one("ADD of " + add + ", COPY of " + copy + ", mode 6", SOURCE, Rows.join(data, Rows.up(0, copy)), data,
                        small ? Rows.of(235 + add - 1) : Rows.of(1 + add, 115 + copy - 3), Rows.of(0));
            }
        }
        for (int copy = 4; copy <= 7; copy++) {
            nearPairs(copy);
        }
    }

    /** ADDs of 1 to 4, each before a COPY by the next of the modes 2 .. 5. */
    private static void nearPairs(int copy) {
        int[] target = Rows.up(20, 7);
        int[] data = {};
        int[] codes = {23};
        for (int k = 1; k <= 4; k++) {
            int[] added = Rows.up(100 + 10 * k, k);
            target = Rows.join(target, added, Rows.up(20 + 2 * k, copy));
            data = Rows.join(data, added);
            int pair = 163 + 12 * (k + 1) + 3 * (k - 1) + (copy - 4);
            codes = Rows.join(codes, copy <= 6 ? Rows.of(pair) : Rows.of(1 + k, 19 + 16 * (k + 1) + copy - 3));
        }
        one("COPYs of " + copy + " by near modes", SOURCE, target, data, codes, Rows.of(20, 2, 2, 2, 2));
    }

    private static void copyThenAdd() {
        one("mode 0", SOURCE, Rows.join(Rows.up(2, 4), Rows.up(100, 1)), Rows.up(100, 1), Rows.of(247), Rows.of(2));
        one("mode 1", SOURCE, Rows.join(Rows.up(44, 4), Rows.up(100, 1)), Rows.up(100, 1), Rows.of(248), Rows.of(4));
        one("mode 6", SOURCE, Rows.join(Rows.up(0, 4), Rows.up(100, 1)), Rows.up(100, 1), Rows.of(253), Rows.of(0));
        int[] target = Rows.up(20, 7);
        int[] codes = {23};
        for (int k = 1; k <= 4; k++) {
            target = Rows.join(target, Rows.up(20 + 2 * k, 4), Rows.of(100 + k));
            codes = Rows.join(codes, Rows.of(247 + k + 1));
        }
        one("modes 2 to 5", SOURCE, target, Rows.up(101, 4), codes, Rows.of(20, 2, 2, 2, 2));
        one("ADD of 2", SOURCE, Rows.join(Rows.up(2, 4), Rows.up(100, 2)), Rows.up(100, 2), Rows.of(20, 3), Rows.of(2));
        one("COPY of 5", SOURCE, Rows.join(Rows.up(2, 5), Rows.up(100, 1)), Rows.up(100, 1), Rows.of(21, 2), Rows.of(2));
        one("COPY and RUN", SOURCE, Rows.join(Rows.up(2, 4), Rows.same(100, 4)), Rows.up(100, 1), Rows.of(20, 0, 4), Rows.of(2));
        one("COPY and COPY", SOURCE, Rows.join(Rows.up(2, 4), Rows.up(3, 4)), NOTHING, Rows.of(20, 52), Rows.of(2, 1));
        one("ADD and RUN", SOURCE, Rows.join(Rows.up(100, 1), Rows.same(101, 4)), Rows.up(100, 2), Rows.of(2, 0, 4), NOTHING);
        one("RUN and ADD", SOURCE, Rows.join(Rows.same(101, 4), Rows.up(100, 1)), Rows.of(101, 100), Rows.of(0, 4, 2), NOTHING);
        one("RUN and COPY", SOURCE, Rows.join(Rows.same(101, 4), Rows.up(2, 4)), Rows.of(101), Rows.of(0, 4, 20), Rows.of(2));
    }

    private static void singleCodes() {
        for (int n = 1; n <= 64; n++) {
            int[] bytes = Rows.up(100, n);
            one("ADD of " + n, NOTHING, bytes, bytes, n <= 17 ? Rows.of(1 + n) : Rows.of(1, n), NOTHING);
        }
        for (int n = 4; n <= 64; n++) {
            one("RUN of " + n, NOTHING, Rows.same(9, n), Rows.of(9), Rows.of(0, n), NOTHING);
        }
        for (int n = 4; n <= 48; n++) {
            one("COPY of " + n + ", mode 6", SOURCE, Rows.up(0, n), NOTHING, n <= 18 ? Rows.of(115 + n - 3) : Rows.of(115, n), Rows.of(0));
        }
        for (int n = 4; n <= 47; n++) {
            one("COPY of " + n + ", mode 0", SOURCE, Rows.up(1, n), NOTHING, n <= 18 ? Rows.of(19 + n - 3) : Rows.of(19, n), Rows.of(1));
        }
        for (int n = 4; n <= 23; n++) {
            one("COPY of " + n + ", mode 1", SOURCE, Rows.up(25, n), NOTHING, n <= 18 ? Rows.of(35 + n - 3) : Rows.of(35, n), Rows.of(23));
        }
    }
}
