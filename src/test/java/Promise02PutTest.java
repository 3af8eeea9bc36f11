/** Promise 2: put appends n times a byte to row 0, 1 or 2. */
public final class Promise02PutTest {
    private static final int[] MOST = {48, 64, 1000};

    public static void main(String[] args) {
        DeltaWindows x = new DeltaWindows();
        for (int row = 0; row < 3; row++) {
            Check.due("put the least byte", x.put(row, 0, 1), true);
            Check.due("put the greatest byte", x.put(row, 255, 2), true);
            Check.due("put", x.put(row, 7 + row, 1), true);
            Check.row("appended", x, row, 0, 255, 255, 7 + row);
            refused(x, row);
        }
        Check.row("output", x, 3);
        for (int row : new int[] {-1, 3, 4, Integer.MIN_VALUE, Integer.MAX_VALUE}) {
            Check.due("put(" + row + ", 1, 1)", x.put(row, 1, 1), false);
        }
        Check.row("output", x, 3);
        for (int row = 0; row < 3; row++) {
            fullRow(row);
        }
        Check.end();
    }

    private static void refused(DeltaWindows x, int row) {
        for (int b : new int[] {-1, 256, Integer.MIN_VALUE, Integer.MAX_VALUE}) {
            Check.due("put(" + row + ", " + b + ", 1)", x.put(row, b, 1), false);
        }
        for (int n : new int[] {0, -1, 17, Integer.MIN_VALUE, Integer.MAX_VALUE}) {
            Check.due("put(" + row + ", 1, " + n + ")", x.put(row, 1, n), false);
        }
        Check.row("after refused puts", x, row, 0, 255, 255, 7 + row);
    }

    private static void fullRow(int row) {
        DeltaWindows x = new DeltaWindows();
        int left = MOST[row];
        while (left > 16) {
            Check.due("put(" + row + ", 3, 16)", x.put(row, 3, 16), true);
            left -= 16;
        }
        if (left < 16) {
            Check.due("too many", x.put(row, 4, left + 1), false);
        }
        Check.due("length before the last", x.length(row), MOST[row] - left);
        Check.due("just full", x.put(row, 4, left), true);
        Check.due("length when full", x.length(row), MOST[row]);
        Check.due("one more", x.put(row, 5, 1), false);
        Check.due("length is the same", x.length(row), MOST[row]);
        Check.due("the last byte is the same", x.byteAt(row, MOST[row] - 1), 4);
        Check.due("cut one", x.cut(row, MOST[row] - 1), true);
        Check.due("two are too many", x.put(row, 5, 2), false);
        Check.due("nothing of them was put", x.length(row), MOST[row] - 1);
        Check.due("one fits", x.put(row, 6, 1), true);
        Check.due("it is the last", x.byteAt(row, MOST[row] - 1), 6);
    }
}
