/** Promise 7: the number of bytes of a row. */
public final class Promise07LengthTest {
    private static final String WHERE = "Promise 7";

    public static void main(String[] args) {
        Check.sentence(WHERE, "The number of bytes of a row", Promise07LengthTest::lengths);
        Check.sentence(WHERE, "BAD when there is no such row.", Promise07LengthTest::noSuchRow);
        Check.end();
    }

    /** From none to as many as each row can have. */
    private static void lengths() {
        for (int k = 0; k < 4; k++) {
            for (int row = 0; row < 4; row++) {
                Stories.all().get(k).due(Call.length(row), Stories.lengths()[k][row]);
            }
        }
        for (int row = 0; row < 3; row++) {
            new Story("one byte").then(Call.put(row, 0, 1), true).due(Call.length(row), 1)
                    .then(Call.cut(row, 0), true).due(Call.length(row), 0);
        }
        Story encoded = new Story("what encode and decode answer is a length").put(1, Rows.text("abcdefg"));
        encoded.then(Call.encode(7), 5 + 1 + 1 + 5 + 7 + 1).due(Call.length(2), 20).due(Call.length(3), 0);
        encoded.then(Call.decode(7), 7).due(Call.length(3), 7).due(Call.length(2), 20);
    }

    private static void noSuchRow() {
        for (Story story : Stories.all()) {
            for (int row : new int[] {-1, 4, Integer.MIN_VALUE, Integer.MAX_VALUE}) {
                story.refuses(Call.length(row), DeltaWindows.BAD);
            }
        }
    }
}
