/** Promise 7: the number of bytes of a row. */
public final class Promise07LengthTest {
    public static void main(String[] args) {
        DeltaWindows x = new DeltaWindows();
        Rows.fill(x, Rows.SOURCE, Rows.text("abc"));
        Rows.fill(x, Rows.TARGET, Rows.text("abcdefg"));
        Check.due("source", x.length(0), 3);
        Check.due("target", x.length(1), 7);
        Check.due("delta", x.length(2), 0);
        Check.due("output", x.length(3), 0);
        int answer = x.encode(7);
        Check.due("delta after encode", x.length(2), answer);
        Check.due("decode(7)", x.decode(7), 7);
        Check.due("output after decode", x.length(3), 7);
        for (int row : new int[] {-1, 4, Integer.MIN_VALUE, Integer.MAX_VALUE}) {
            Check.due("length(" + row + ")", x.length(row), DeltaWindows.BAD);
        }
        Check.end();
    }
}
