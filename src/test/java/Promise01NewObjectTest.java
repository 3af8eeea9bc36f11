/** Promise 1: all rows of a new object are empty. */
public final class Promise01NewObjectTest {
    public static void main(String[] args) {
        DeltaWindows x = new DeltaWindows();
        for (int row = 0; row < 4; row++) {
            Check.row("new", x, row);
            Check.due("new: byteAt(" + row + ", 0)", x.byteAt(row, 0), DeltaWindows.BAD);
        }
        Check.due("new: windows()", x.windows(), 0);
        Check.due("new: agrees()", x.agrees(), true);
        objectsShareNothing();
        Check.end();
    }

    private static void objectsShareNothing() {
        DeltaWindows one = new DeltaWindows();
        Rows.fill(one, Rows.SOURCE, Rows.text("xabcdef"));
        Rows.fill(one, Rows.TARGET, Rows.text("abcdef"));
        Check.due("one: encode(64)", one.encode(64), 5 + 3 + 1 + 5 + 2);
        Check.due("one: decode(6)", one.decode(6), 6);
        Check.due("one: cache(0, 0)", one.cache(0, 0), 1);
        DeltaWindows two = new DeltaWindows();
        for (int row = 0; row < 4; row++) {
            Check.row("two", two, row);
        }
        for (int side = 0; side < 2; side++) {
            for (int i = 0; i < 8; i++) {
                Check.due("two: cache(" + side + ", " + i + ")", two.cache(side, i), 0);
            }
        }
        Check.due("two: windows()", two.windows(), 0);
        Check.row("one", one, Rows.SOURCE, Rows.text("xabcdef"));
    }
}
