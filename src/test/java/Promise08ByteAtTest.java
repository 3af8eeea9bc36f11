/** Promise 8: byte i of a row. */
public final class Promise08ByteAtTest {
    public static void main(String[] args) {
        DeltaWindows x = new DeltaWindows();
        Rows.fill(x, Rows.SOURCE, 0, 255, 128);
        Rows.fill(x, Rows.TARGET, 5, 6);
        Rows.fill(x, Rows.DELTA, Rows.delta(Rows.window(1, Rows.of(200), Rows.of(2), Rows.of())));
        Check.due("decode(1)", x.decode(1), 1);
        Check.row("source", x, 0, 0, 255, 128);
        Check.row("target", x, 1, 5, 6);
        Check.row("delta", x, 2, 214, 195, 196, 0, 0, 0, 7, 1, 0, 1, 1, 0, 200, 2);
        Check.row("output", x, 3, 200);
        int[] lengths = {3, 2, 14, 1};
        for (int row = 0; row < 4; row++) {
            for (int i : new int[] {-1, lengths[row], 2000, Integer.MIN_VALUE, Integer.MAX_VALUE}) {
                Check.due("byteAt(" + row + ", " + i + ")", x.byteAt(row, i), DeltaWindows.BAD);
            }
        }
        for (int row : new int[] {-1, 4, Integer.MIN_VALUE, Integer.MAX_VALUE}) {
            Check.due("byteAt(" + row + ", 0)", x.byteAt(row, 0), DeltaWindows.BAD);
        }
        Check.end();
    }
}
