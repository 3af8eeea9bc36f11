/** Promise 12: whether output and target are the same row of bytes. */
public final class Promise12AgreesTest {
    public static void main(String[] args) {
        DeltaWindows x = new DeltaWindows();
        Check.due("both empty", x.agrees(), true);
        Rows.fill(x, Rows.TARGET, 1, 2, 3);
        Check.due("the output is empty", x.agrees(), false);
        Check.due("encode(64)", x.encode(64), 5 + 1 + 1 + 5 + 3 + 1);
        Check.due("not decoded yet", x.agrees(), false);
        Check.due("decode(3)", x.decode(3), 3);
        Check.due("the same", x.agrees(), true);
        for (int i = 0; i < 3; i++) {
            Check.due("set", x.set(1, i, 9), true);
            Check.due("another byte " + i, x.agrees(), false);
            Check.due("set back", x.set(1, i, i + 1), true);
            Check.due("the same again", x.agrees(), true);
        }
        Check.due("cut", x.cut(1, 2), true);
        Check.due("the output is longer", x.agrees(), false);
        Check.due("put", x.put(1, 3, 1), true);
        Check.due("the same once more", x.agrees(), true);
        Check.due("put", x.put(1, 3, 1), true);
        Check.due("the target is longer", x.agrees(), false);
        Check.due("cut", x.cut(1, 0), true);
        Check.due("the target is empty", x.agrees(), false);
        Rows.fill(x, Rows.DELTA, Rows.HEAD);
        Check.due("decode(0)", x.decode(0), 0);
        Check.due("both empty again", x.agrees(), true);
        Check.end();
    }
}
