/** Promise 4: byte i of row 0, 1 or 2 becomes b. */
public final class Promise04SetTest {
    public static void main(String[] args) {
        DeltaWindows x = new DeltaWindows();
        for (int row = 0; row < 3; row++) {
            Check.due("an empty row has no byte 0", x.set(row, 0, 1), false);
            Rows.fill(x, row, 1, 2, 3);
            Check.due("the first", x.set(row, 0, 255), true);
            Check.due("the last", x.set(row, 2, 0), true);
            Check.row("set", x, row, 255, 2, 0);
            for (int i : new int[] {-1, 3, 47, Integer.MIN_VALUE, Integer.MAX_VALUE}) {
                Check.due("set(" + row + ", " + i + ", 1)", x.set(row, i, 1), false);
            }
            for (int b : new int[] {-1, 256, Integer.MIN_VALUE, Integer.MAX_VALUE}) {
                Check.due("set(" + row + ", 1, " + b + ")", x.set(row, 1, b), false);
            }
            Check.row("after refused sets", x, row, 255, 2, 0);
            Check.due("cut(" + row + ", 2)", x.cut(row, 2), true);
            Check.due("a byte that was cut", x.set(row, 2, 1), false);
            Check.due("set(" + row + ", 1, ..)", x.set(row, 1, 40 + row), true);
        }
        for (int row = 0; row < 3; row++) {
            Check.row("the other rows are left alone", x, row, 255, 40 + row);
        }
        output();
        Check.end();
    }

    private static void output() {
        DeltaWindows x = Rows.with(Rows.of(), Rows.delta(Rows.window(2, Rows.of(7), Rows.of(0, 2), Rows.of())));
        Check.due("decode(2)", x.decode(2), 2);
        for (int row : new int[] {3, -1, 4, Integer.MIN_VALUE, Integer.MAX_VALUE}) {
            Check.due("set(" + row + ", 0, 1)", x.set(row, 0, 1), false);
        }
        Check.row("output", x, 3, 7, 7);
    }
}
