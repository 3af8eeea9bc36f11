/** Promise 5: encode, with deltas worked out by hand. */
public final class Promise05EncodeTest {
    private static final int[] NOTHING = {};

    public static void main(String[] args) {
        wrongPieces();
        emptyTarget();
        adds();
        runs();
        copies();
        runOrCopy();
        modes();
        modesThatTie();
        addThenCopy();
        copyThenAdd();
        pairsFromTheFirst();
        pieces();
        longest();
        Check.end();
    }

    /** Encodes in one window and holds the whole delta against what is due. */
    private static void one(String what, int[] source, int[] target, int[] data, int[] codes, int[] addresses) {
        int[] body = Rows.body(target.length, data, codes, addresses);
        int[] window = source.length == 0 ? Rows.join(Rows.of(0), body) : Rows.window(1, source.length, 0, body);
        whole(what, source, target, 64, Rows.delta(window));
    }

    private static void whole(String what, int[] source, int[] target, int w, int[] delta) {
        DeltaWindows x = new DeltaWindows();
        Rows.fill(x, Rows.SOURCE, source);
        Rows.fill(x, Rows.TARGET, target);
        Check.due(what + ": encode(" + w + ")", x.encode(w), delta.length);
        Check.row(what, x, Rows.DELTA, delta);
        Check.row(what, x, Rows.SOURCE, source);
        Check.row(what, x, Rows.TARGET, target);
        Check.due(what + ": decode", x.decode(target.length), target.length);
        Check.due(what + ": agrees", x.agrees(), true);
    }

    /** n bytes, each one more than the one before. */
    private static int[] up(int from, int n) {
        int[] bytes = new int[n];
        for (int i = 0; i < n; i++) {
            bytes[i] = from + i;
        }
        return bytes;
    }

    private static int[] same(int b, int n) {
        int[] bytes = new int[n];
        java.util.Arrays.fill(bytes, b);
        return bytes;
    }

    private static void wrongPieces() {
        DeltaWindows x = new DeltaWindows();
        Rows.fill(x, Rows.SOURCE, Rows.text("-abcd"));
        Rows.fill(x, Rows.TARGET, Rows.text("abcd"));
        Rows.fill(x, Rows.DELTA, 1, 2, 3);
        for (int w : new int[] {0, -1, 65, Integer.MIN_VALUE, Integer.MAX_VALUE}) {
            Check.due("encode(" + w + ")", x.encode(w), DeltaWindows.BAD);
        }
        Check.row("a bad encode", x, Rows.DELTA, 1, 2, 3);
        Check.due("a bad encode: cache(0, 0)", x.cache(0, 0), 0);
        Check.due("encode(64)", x.encode(64), 16);
        Check.due("encode(1)", x.encode(1), 5 + 4 * 11);
    }

    private static void emptyTarget() {
        whole("no target and no source", NOTHING, NOTHING, 64, Rows.HEAD);
        whole("no target", Rows.text("abcdef"), NOTHING, 1, Rows.HEAD);
    }

    private static void adds() {
        one("ADD of 1", NOTHING, Rows.of(255), Rows.of(255), Rows.of(2), NOTHING);
        one("ADD of 3", NOTHING, Rows.of(3, 2, 1), Rows.of(3, 2, 1), Rows.of(4), NOTHING);
        one("ADD of 17", NOTHING, up(1, 17), up(1, 17), Rows.of(18), NOTHING);
        one("ADD of 18", NOTHING, up(1, 18), up(1, 18), Rows.of(1, 18), NOTHING);
        one("ADD of 64", Rows.of(99), up(100, 64), up(100, 64), Rows.of(1, 64), NOTHING);
        one("three of a kind are too few", NOTHING, Rows.text("aaa"), Rows.text("aaa"), Rows.of(4), NOTHING);
        one("a copy of three is too small", Rows.text("abc"), Rows.text("abcx"), Rows.text("abcx"), Rows.of(5), NOTHING);
        one("ADDs side by side", Rows.text("abc"), Rows.text("bcabccc"), Rows.text("bcabccc"), Rows.of(8), NOTHING);
    }

    private static void runs() {
        one("RUN of 4", NOTHING, Rows.text("aaaa"), Rows.text("a"), Rows.of(0, 4), NOTHING);
        one("RUN of 64", NOTHING, same(0, 64), Rows.of(0), Rows.of(0, 64), NOTHING);
        one("ADD, RUN, RUN, ADD", NOTHING, Rows.text("xaaaabbbbby"), Rows.text("xaby"), Rows.of(2, 0, 4, 0, 5, 2), NOTHING);
        one("a run reaches to the piece's end", Rows.text("b"), Rows.text("xyaaaa"), Rows.text("xya"), Rows.of(3, 0, 4), NOTHING);
    }

    private static void copies() {
        one("COPY of 4 from 0", Rows.text("abcd"), Rows.text("abcd"), NOTHING, Rows.of(116), Rows.of(0));
        one("COPY of 18", up(0, 48), up(1, 18), NOTHING, Rows.of(19 + 15), Rows.of(1));
        one("COPY of 19", up(0, 48), up(1, 19), NOTHING, Rows.of(19, 19), Rows.of(1));
        one("COPY of 48", up(0, 48), up(0, 48), NOTHING, Rows.of(115, 48), Rows.of(0));
        one("the least address of equal ones", Rows.text("zabcdXabcd"), Rows.text("abcd"),
                NOTHING, Rows.of(20), Rows.of(1));
        one("the longest goes before the least", Rows.text("abcdeXabcdef"), Rows.text("abcdef"),
                NOTHING, Rows.of(22), Rows.of(6));
        one("a copy of bytes that it appends", NOTHING, Rows.text("abababab"), Rows.text("ab"), Rows.of(3, 118), Rows.of(0));
        one("from the source on into the piece", Rows.text("--abc"), Rows.text("abcabca"),
                NOTHING, Rows.of(19 + 4), Rows.of(2));
        one("from the window itself", Rows.text("z"), Rows.text("abcdeabcde"),
                Rows.text("abcde"), Rows.of(6, 21), Rows.of(1));
    }

    private static void runOrCopy() {
        one("RUN when they are equal", Rows.text("xaaaab"), Rows.text("aaaa"), Rows.text("a"), Rows.of(0, 4), NOTHING);
        one("RUN when the copy is shorter", Rows.text("xaaaab"), Rows.text("aaaaa"), Rows.text("a"), Rows.of(0, 5), NOTHING);
        one("COPY when it is longer", Rows.text("xaaaab"), Rows.text("aaaab"), NOTHING, Rows.of(21), Rows.of(1));
        one("COPY of 4 where the run is 3", Rows.text("xaaab"), Rows.text("aaab"), NOTHING, Rows.of(20), Rows.of(1));
    }

    private static void modes() {
        int[] source = up(0, 48);
        one("mode 0", source, up(20, 4), NOTHING, Rows.of(20), Rows.of(20));
        one("mode 0 when mode 1 is the same", source, up(24, 4), NOTHING, Rows.of(20), Rows.of(24));
        one("mode 1", source, up(25, 4), NOTHING, Rows.of(36), Rows.of(23));
        int[] target = Rows.join(up(20, 4), up(22, 4), up(25, 4), up(27, 4), up(30, 4), up(31, 4), up(20, 4), up(26, 4));
        one("near and same", source, target, NOTHING,
                Rows.of(20, 52, 68, 84, 100, 52, 116, 100 - 16),
                Rows.of(20, 2, 3, 2, 3, 1, 20, 26 - 20));
        one("never an integer below 0", source, Rows.join(up(20, 4), up(18, 4)), NOTHING, Rows.of(20, 20), Rows.of(20, 18));
        one("integer 0 is never of a near mode, for SAME goes before", source, Rows.join(up(20, 4), up(20, 4)),
                NOTHING, Rows.of(20, 116), Rows.of(20, 20));
        one("here counts what the window has made", Rows.of(), Rows.text("01234567890123efghijefghij"),
                Rows.text("0123456789efghij"), Rows.of(11, 116, 7, 35 + 3), Rows.of(0, 6));
    }

    private static void modesThatTie() {
        int[] source = up(0, 48);
        one("the first of two equal nears", source, Rows.join(up(20, 4), up(20, 4), up(22, 4)),
                NOTHING, Rows.of(20, 116, 52), Rows.of(20, 20, 2));
        one("mode 0 before a near that is 0", source, up(2, 4), NOTHING, Rows.of(20), Rows.of(2));
        one("mode 1 before an equal near", source, Rows.join(up(20, 4), up(36, 4)),
                NOTHING, Rows.of(20, 36), Rows.of(20, 16));
        one("a near that is less than mode 1", source, Rows.join(up(20, 4), up(35, 4)),
                NOTHING, Rows.of(20, 52), Rows.of(20, 15));
        one("mode 1 that is less than a near", source, Rows.join(up(20, 4), up(37, 4)),
                NOTHING, Rows.of(20, 36), Rows.of(20, 15));
    }

    private static void addThenCopy() {
        int[] source = up(0, 48);
        for (int add = 1; add <= 5; add++) {
            for (int copy = 4; copy <= 7; copy++) {
                int[] target = Rows.join(up(100, add), up(2, copy));
                boolean paired = add <= 4 && copy <= 6;
                int pair = 163 + 3 * (add - 1) + (copy - 4);
                one("ADD of " + add + ", COPY of " + copy + ", mode 0", source, target, up(100, add),
                        paired ? Rows.of(pair) : Rows.of(1 + add, 19 + copy - 3), Rows.of(2));
                int[] end = Rows.join(up(100, add), up(40, copy));
                one("ADD of " + add + ", COPY of " + copy + ", mode 1", source, end, up(100, add),
                        paired ? Rows.of(pair + 12) : Rows.of(1 + add, 35 + copy - 3), Rows.of(8 + add));
                int[] first = Rows.join(up(100, add), up(0, copy));
                boolean small = add <= 4 && copy == 4;
                one("ADD of " + add + ", COPY of " + copy + ", mode 6", source, first, up(100, add),
                        small ? Rows.of(235 + add - 1) : Rows.of(1 + add, 115 + copy - 3), Rows.of(0));
            }
        }
        int[] target = Rows.join(up(20, 7), up(100, 1), up(22, 4), up(101, 2), up(24, 5), up(103, 3), up(26, 6), up(106, 4), up(28, 4));
        one("ADD then COPY with the near modes", source, target,
                Rows.join(up(100, 1), up(101, 2), up(103, 3), up(106, 4)),
                Rows.of(23, 163 + 24, 163 + 36 + 3 + 1, 163 + 48 + 6 + 2, 163 + 60 + 9), Rows.of(20, 2, 2, 2, 2));
    }

    private static void copyThenAdd() {
        int[] source = up(0, 48);
        one("COPY of 4, ADD of 1, mode 0", source, Rows.join(up(2, 4), up(100, 1)), up(100, 1), Rows.of(247), Rows.of(2));
        one("COPY of 4, ADD of 1, mode 1", source, Rows.join(up(44, 4), up(100, 1)), up(100, 1), Rows.of(248), Rows.of(4));
        one("COPY of 4, ADD of 1, mode 6", source, Rows.join(up(0, 4), up(100, 1)), up(100, 1), Rows.of(253), Rows.of(0));
        one("COPY of 4, ADD of 2", source, Rows.join(up(2, 4), up(100, 2)), up(100, 2), Rows.of(20, 3), Rows.of(2));
        one("COPY of 5, ADD of 1", source, Rows.join(up(2, 5), up(100, 1)), up(100, 1), Rows.of(21, 2), Rows.of(2));
        one("COPY of 4, RUN", source, Rows.join(up(2, 4), same(100, 4)), up(100, 1), Rows.of(20, 0, 4), Rows.of(2));
        one("COPY of 4, COPY of 4", source, Rows.join(up(2, 4), up(3, 4)), NOTHING, Rows.of(20, 52), Rows.of(2, 1));
        one("ADD of 1, RUN", source, Rows.join(up(100, 1), same(101, 4)), up(100, 2), Rows.of(2, 0, 4), NOTHING);
    }

    private static void pairsFromTheFirst() {
        int[] source = up(0, 48);
        one("ADD, COPY, ADD", source, Rows.join(up(100, 1), up(2, 4), up(101, 1)),
                up(100, 2), Rows.of(163, 2), Rows.of(2));
        one("COPY, ADD, COPY", source, Rows.join(up(2, 4), up(100, 1), up(3, 4)),
                up(100, 1), Rows.of(247, 52), Rows.of(2, 1));
        one("COPY, ADD, COPY, ADD", source, Rows.join(up(2, 4), up(100, 1), up(3, 4), up(101, 1)),
                up(100, 2), Rows.of(247, 249), Rows.of(2, 1));
        one("COPY of 5, ADD, COPY, ADD", source, Rows.join(up(2, 5), up(100, 1), up(3, 4), up(101, 1)),
                up(100, 2), Rows.of(21, 163 + 24, 2), Rows.of(2, 1));
        one("ADD, RUN, ADD, COPY", source, Rows.join(up(100, 1), same(101, 5), up(102, 1), up(2, 5)),
                up(100, 3), Rows.of(2, 0, 5, 164), Rows.of(2));
    }

    private static void pieces() {
        int[] source = Rows.text("-abcd");
        int[] copy = Rows.window(1, 5, 0, Rows.body(4, NOTHING, Rows.of(20), Rows.of(1)));
        whole("each piece has caches of its own", source, Rows.text("abcdabcd"), 4, Rows.delta(copy, copy));
        int[] last = Rows.window(1, 5, 0, Rows.body(2, Rows.text("ab"), Rows.of(3), NOTHING));
        whole("the last piece may be smaller", source, Rows.text("abcdab"), 4, Rows.delta(copy, last));
        int[] add = Rows.window(4, Rows.text("wxyz"), Rows.of(5), NOTHING);
        whole("earlier pieces are not in the string", NOTHING, Rows.text("wxyzwxyz"), 4, Rows.delta(add, add));
        int[] run = Rows.window(5, Rows.text("a"), Rows.of(0, 5), NOTHING);
        int[] rest = Rows.window(3, Rows.text("aaa"), Rows.of(4), NOTHING);
        whole("a run ends with its piece", NOTHING, Rows.text("aaaaaaaa"), 5, Rows.delta(run, rest));
        int[] byOne = Rows.window(1, Rows.text("a"), Rows.of(2), NOTHING);
        whole("pieces of one", NOTHING, Rows.text("aaa"), 1, Rows.delta(byOne, byOne, byOne));
    }

    private static void longest() {
        DeltaWindows x = new DeltaWindows();
        Rows.fill(x, Rows.SOURCE, up(0, 48));
        Rows.fill(x, Rows.TARGET, up(0, 64));
        Check.due("the longest delta", x.encode(1), 5 + 64 * 11);
        Check.due("it decodes", x.decode(64), 64);
        Check.due("it agrees", x.agrees(), true);
        Check.due("windows()", x.windows(), 64);
    }
}
