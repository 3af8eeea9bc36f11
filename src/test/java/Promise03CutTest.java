/** Promise 3: row 0, 1 or 2 keeps its first n bytes. */
public final class Promise03CutTest {
    private static final String WHERE = "Promise 3";

    public static void main(String[] args) {
        Check.sentence(WHERE, "Row 0, 1 or 2 keeps its first n bytes.", Promise03CutTest::keeps);
        Check.sentence(WHERE, "False when row is another", Promise03CutTest::anotherRow);
        Check.sentence(WHERE, "or n is negative", Promise03CutTest::negative);
        Check.sentence(WHERE, "or more than it has", Promise03CutTest::moreThanItHas);
        Check.end();
    }

    private static void keeps() {
        for (int row = 0; row < 3; row++) {
            new Story("an empty row").then(Call.cut(row, 0), true).row(row);
            for (int n = 0; n <= 5; n++) {
                Story story = new Story("keeps " + n).put(0, 1, 2, 3, 4, 5).put(1, 1, 2, 3, 4, 5).put(2, 1, 2, 3, 4, 5);
                story.then(Call.cut(row, n), true);
                for (int other = 0; other < 3; other++) {
                    story.row(other, Rows.up(1, other == row ? n : 5));
                }
                story.then(Call.put(row, 9, 1), true).row(row, Rows.join(Rows.up(1, n), Rows.of(9)));
            }
        }
        Stories.full().then(Call.cut(2, 1000), true).due(Call.length(2), 1000);
        Stories.full().then(Call.cut(2, 999), true).due(Call.length(2), 999);
        Stories.full().then(Call.cut(2, 0), true).due(Call.length(2), 0).due(Call.length(3), 400);
        Stories.agreeing().then(Call.cut(1, 0), true).due(Call.length(3), 26).due(Call.agrees(), false);
    }

    private static void anotherRow() {
        for (Story story : Stories.all()) {
            for (int row : new int[] {3, 4, -1, Integer.MIN_VALUE, Integer.MAX_VALUE}) {
                story.refuses(Call.cut(row, 0)).refuses(Call.cut(row, 1));
            }
        }
        for (int row = 0; row < 3; row++) {
            Stories.agreeing().due(Call.cut(row, 1), true);
        }
    }

    private static void negative() {
        for (Story story : Stories.all()) {
            for (int row = 0; row < 3; row++) {
                story.due(Call.cut(row, 0), true);
                story.refuses(Call.cut(row, -1)).refuses(Call.cut(row, Integer.MIN_VALUE));
            }
        }
    }

    private static void moreThanItHas() {
        int[][] lengths = Stories.lengths();
        for (int k = 0; k < 4; k++) {
            Story story = Stories.all().get(k);
            for (int row = 0; row < 3; row++) {
                int has = lengths[k][row];
                story.due(Call.cut(row, has), true);
                story.refuses(Call.cut(row, has + 1)).refuses(Call.cut(row, Integer.MAX_VALUE));
            }
        }
        Story again = new Story("bytes that were cut do not come back").put(0, 1, 2, 3).then(Call.cut(0, 1), true);
        again.refuses(Call.cut(0, 2)).refuses(Call.cut(0, 3)).row(0, 1);
    }
}
