/** Promise 3: row 0, 1 or 2 keeps its first n bytes. */
public final class Promise03CutTest {
    public static void main(String[] args) {
        DeltaWindows x = new DeltaWindows();
        for (int row = 0; row < 3; row++) {
            Check.due("an empty row keeps 0", x.cut(row, 0), true);
            Check.due("an empty row has no 1", x.cut(row, 1), false);
            Rows.fill(x, row, 1, 2, 3, 4, 5);
            Check.due("cut(" + row + ", 6)", x.cut(row, 6), false);
            Check.due("cut(" + row + ", -1)", x.cut(row, -1), false);
            Check.due("cut to the greatest int", x.cut(row, Integer.MAX_VALUE), false);
            Check.due("cut to the least int", x.cut(row, Integer.MIN_VALUE), false);
            Check.row("after refused cuts", x, row, 1, 2, 3, 4, 5);
            Check.due("all of it", x.cut(row, 5), true);
            Check.row("keeps all", x, row, 1, 2, 3, 4, 5);
            Check.due("cut(" + row + ", 3)", x.cut(row, 3), true);
            Check.row("keeps three", x, row, 1, 2, 3);
            Check.due("no byte 3", x.byteAt(row, 3), DeltaWindows.BAD);
            Check.due("cut(" + row + ", 4)", x.cut(row, 4), false);
            Check.due("put behind", x.put(row, 9, 1), true);
            Check.row("put behind", x, row, 1, 2, 3, 9);
            Check.due("cut(" + row + ", 0)", x.cut(row, 0), true);
            Check.row("keeps none", x, row);
            Rows.fill(x, row, 8, 8 + row);
        }
        for (int row = 0; row < 3; row++) {
            Check.row("the other rows are left alone", x, row, 8, 8 + row);
        }
        output();
        Check.end();
    }

    private static void output() {
        DeltaWindows x = Rows.with(Rows.of(), Rows.delta(Rows.window(2, Rows.of(7), Rows.of(0, 2), Rows.of())));
        Check.due("decode(2)", x.decode(2), 2);
        for (int row : new int[] {3, -1, 4, Integer.MIN_VALUE, Integer.MAX_VALUE}) {
            Check.due("cut(" + row + ", 0)", x.cut(row, 0), false);
        }
        Check.row("output", x, 3, 7, 7);
    }
}
