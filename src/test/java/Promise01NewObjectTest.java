/** Promise 1: all rows of a new object are empty. */
public final class Promise01NewObjectTest {
    private static final String WHERE = "Promise 1";

    public static void main(String[] args) {
        Check.sentence(WHERE, "All rows are empty.", Promise01NewObjectTest::rowsAreEmpty);
        Check.sentence(WHERE, "A new object", Promise01NewObjectTest::objectsShareNothing);
        Check.sentence(WHERE, "DeltaWindows()", Promise01NewObjectTest::firstCalls);
        Check.end();
    }

    private static void rowsAreEmpty() {
        for (int row = 0; row < 4; row++) {
            Stories.fresh().row(row).due(Call.byteAt(row, -1), DeltaWindows.BAD);
        }
    }

    private static void objectsShareNothing() {
        DeltaWindows one = new DeltaWindows();
        Rows.fill(one, Rows.SOURCE, Rows.text("xabcdef"));
        Rows.fill(one, Rows.TARGET, Rows.text("abcdef"));
        Check.due("one: encode(64)", one.encode(64), 5 + 3 + 1 + 5 + 2);
        Check.due("one: decode(6)", one.decode(6), 6);
        Check.due("one: cache(0, 0)", one.cache(0, 0), 1);
        DeltaWindows two = new DeltaWindows();
        for (int row = 0; row < 4; row++) {
            Check.row("two", two, row);
        }
        for (int side = 0; side < 2; side++) {
            for (int i = 0; i < 8; i++) {
                Check.due("two: cache(" + side + ", " + i + ")", two.cache(side, i), 0);
            }
        }
        Check.due("two: windows()", two.windows(), 0);
        Check.row("one", one, Rows.SOURCE, Rows.text("xabcdef"));
    }

    /** Each call as the first one, on empty rows. */
    private static void firstCalls() {
        Stories.fresh()
                .due(Call.agrees(), true)
                .due(Call.windows(), 0)
                .due(Call.encode(1), 5)
                .due(Call.encode(64), 5)
                .due(Call.cut(0, 0), true)
                .refuses(Call.cut(0, 1))
                .refuses(Call.set(1, 0, 0))
                .refuses(Call.decode(0), DeltaWindows.ILLFORMED)
                .refuses(Call.decode(400), DeltaWindows.ILLFORMED)
                .caches(0, new int[4])
                .caches(1, new int[4]);
    }
}
