import java.util.List;

/** Promise 2: put appends n times a byte to row 0, 1 or 2. */
public final class Promise02PutTest {
    private static final String WHERE = "Promise 2";
    private static final int[] MOST = {48, 64, 1000};

    public static void main(String[] args) {
        Check.sentence(WHERE, "Appends n times the byte b to row 0, 1 or 2.", Promise02PutTest::appends);
        Check.sentence(WHERE, "False when row is another", Promise02PutTest::anotherRow);
        Check.sentence(WHERE, "b is not 0 .. 255", Promise02PutTest::bytes);
        Check.sentence(WHERE, "n is not 1 .. 16", Promise02PutTest::times);
        Check.sentence(WHERE, "or the row would have too many", Promise02PutTest::tooMany);
        Check.end();
    }

    /** Ends at which each row has room for 16 bytes. */
    private static List<Story> roomy() {
        return List.of(Stories.fresh(), Stories.agreeing(), Stories.differing());
    }

    private static void appends() {
        for (int row = 0; row < 3; row++) {
            Story story = new Story("appended")
                    .then(Call.put(row, 7, 1), true)
                    .then(Call.put(row, 9 + row, 3), true)
                    .then(Call.put(row, 7, 1), true);
            for (int other = 0; other < 4; other++) {
                story.row(other, other == row ? Rows.of(7, 9 + row, 9 + row, 9 + row, 7) : Rows.of());
            }
        }
        Stories.agreeing().then(Call.put(0, 'z', 2), true).row(0, Rows.text("abcdefghijklzz"));
    }

    private static void anotherRow() {
        for (Story story : Stories.all()) {
            for (int row : new int[] {3, 4, -1, Integer.MIN_VALUE, Integer.MAX_VALUE}) {
                story.refuses(Call.put(row, 1, 1));
            }
        }
        for (int row = 0; row < 3; row++) {
            Stories.fresh().due(Call.put(row, 1, 1), true);
        }
    }

    private static void bytes() {
        for (int row = 0; row < 3; row++) {
            new Story("the least and the greatest byte")
                    .then(Call.put(row, 0, 1), true)
                    .then(Call.put(row, 255, 1), true)
                    .row(row, 0, 255);
            for (Story story : roomy()) {
                for (int b : new int[] {-1, 256, -128, 512, Integer.MIN_VALUE, Integer.MAX_VALUE}) {
                    story.refuses(Call.put(row, b, 1));
                }
            }
        }
    }

    private static void times() {
        for (int row = 0; row < 3; row++) {
            for (int n = 1; n <= 16; n++) {
                new Story(n + " times").then(Call.put(row, 200, n), true).row(row, Rows.same(200, n));
            }
            for (Story story : roomy()) {
                for (int n : new int[] {0, 17, -1, 18, Integer.MIN_VALUE, Integer.MAX_VALUE}) {
                    story.refuses(Call.put(row, 1, n));
                }
            }
        }
    }

    private static void tooMany() {
        for (int row = 0; row < 3; row++) {
            Story some = new Story("one byte is left").put(row, Rows.same(3, MOST[row] - 1));
            some.refuses(Call.put(row, 4, 2)).refuses(Call.put(row, 4, 16));
            Story full = some.then(Call.put(row, 4, 1), true);
            full.row(row, Rows.join(Rows.same(3, MOST[row] - 1), Rows.of(4)));
            full.refuses(Call.put(row, 5, 1)).refuses(Call.put(row, 5, 16));
            Story cut = full.again().then(Call.cut(row, MOST[row] - 16), true);
            cut.due(Call.put(row, 5, 16), true).refuses(Call.put(row, 5, 17));
            cut.then(Call.put(row, 6, 1), true).refuses(Call.put(row, 5, 16)).due(Call.put(row, 5, 15), true);
            Stories.full().refuses(Call.put(row, 4, 1));
        }
    }
}
