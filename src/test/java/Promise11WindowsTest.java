/** Promise 11: how many windows the latest decode that was not refused had. */
public final class Promise11WindowsTest {
    public static void main(String[] args) {
        int[] one = Rows.window(1, Rows.of(9), Rows.of(2), Rows.of());
        int[] none = Rows.window(0, Rows.of(), Rows.of(), Rows.of());
        DeltaWindows x = new DeltaWindows();
        Check.due("before", x.windows(), 0);
        Check.due("refused", x.decode(9), DeltaWindows.ILLFORMED);
        Check.due("after a refused one", x.windows(), 0);
        Rows.fill(x, Rows.DELTA, Rows.delta(one, none, one));
        Check.due("not decoded yet", x.windows(), 0);
        Check.due("decode(2)", x.decode(2), 2);
        Check.due("three, one of them without bytes", x.windows(), 3);
        Check.due("too long", x.decode(1), DeltaWindows.TOOLONG);
        Check.due("after one that was too long", x.windows(), 3);
        Check.due("bad", x.decode(-1), DeltaWindows.BAD);
        Check.due("after a bad one", x.windows(), 3);
        Check.due("put", x.put(Rows.DELTA, 3, 1), true);
        Check.due("ill formed", x.decode(9), DeltaWindows.ILLFORMED);
        Check.due("after one that was ill formed", x.windows(), 3);
        Rows.fill(x, Rows.TARGET, 1, 2, 3, 4, 5);
        Check.due("encode(2)", x.encode(2), 5 + 9 + 9 + 8 + 3);
        Check.due("after encode", x.windows(), 3);
        Check.due("decode(5)", x.decode(5), 5);
        Check.due("pieces of two", x.windows(), 3);
        Check.due("encode(1)", x.encode(1), 5 + 5 * 9);
        Check.due("decode(5)", x.decode(5), 5);
        Check.due("pieces of one", x.windows(), 5);
        Rows.fill(x, Rows.DELTA, Rows.HEAD);
        Check.due("decode(0)", x.decode(0), 0);
        Check.due("the head alone", x.windows(), 0);
        most();
        Check.end();
    }

    private static void most() {
        DeltaWindows x = new DeltaWindows();
        Rows.fill(x, Rows.DELTA, Rows.HEAD);
        for (int k = 0; k < 142; k++) {
            Check.due("0", x.put(2, 0, 1), true);
            Check.due("5", x.put(2, 5, 1), true);
            Check.due("five 0", x.put(2, 0, 5), true);
        }
        Check.due("length(2)", x.length(2), 999);
        Check.due("decode(0)", x.decode(0), 0);
        Check.due("as many windows as a delta can have", x.windows(), 142);
    }
}
