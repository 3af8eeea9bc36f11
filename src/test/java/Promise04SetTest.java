/** Promise 4: byte i of row 0, 1 or 2 becomes b. */
public final class Promise04SetTest {
    private static final String WHERE = "Promise 4";

    public static void main(String[] args) {
        Check.sentence(WHERE, "Byte i of row 0, 1 or 2 becomes b.", Promise04SetTest::becomes);
        Check.sentence(WHERE, "False when row is another", Promise04SetTest::anotherRow);
        Check.sentence(WHERE, "it has no byte i", Promise04SetTest::noSuchByte);
        Check.sentence(WHERE, "or b is not 0 .. 255", Promise04SetTest::bytes);
        Check.end();
    }

    private static void becomes() {
        for (int row = 0; row < 3; row++) {
            for (int i = 0; i < 3; i++) {
                Story story = new Story("byte " + i).put(0, 1, 2, 3).put(1, 1, 2, 3).put(2, 1, 2, 3);
                story.then(Call.set(row, i, 77), true);
                for (int other = 0; other < 3; other++) {
                    int[] due = {1, 2, 3};
                    due[i] = other == row ? 77 : due[i];
                    story.row(other, due);
                }
            }
        }
        Stories.full().then(Call.set(2, 999, 1), true).then(Call.set(0, 47, 2), true).then(Call.set(1, 63, 3), true)
                .due(Call.byteAt(2, 999), 1).due(Call.byteAt(0, 47), 2).due(Call.byteAt(1, 63), 3);
        Stories.agreeing().then(Call.set(1, 0, 'q'), true).due(Call.byteAt(3, 0), 'c').due(Call.agrees(), false);
    }

    private static void anotherRow() {
        for (Story story : Stories.all()) {
            for (int row : new int[] {3, 4, -1, Integer.MIN_VALUE, Integer.MAX_VALUE}) {
                story.refuses(Call.set(row, 0, 1));
            }
        }
        for (int row = 0; row < 3; row++) {
            Stories.agreeing().due(Call.set(row, 0, 1), true);
        }
    }

    private static void noSuchByte() {
        int[][] lengths = Stories.lengths();
        for (int k = 0; k < 4; k++) {
            Story story = Stories.all().get(k);
            for (int row = 0; row < 3; row++) {
                int has = lengths[k][row];
                for (int i : new int[] {has, has + 1, -1, Integer.MIN_VALUE, Integer.MAX_VALUE}) {
                    story.refuses(Call.set(row, i, 1));
                }
                if (has > 0) {
                    story.due(Call.set(row, has - 1, 1), true).due(Call.set(row, 0, 1), true);
                }
            }
        }
        new Story("a byte that was cut").put(0, 1, 2, 3).then(Call.cut(0, 2), true).refuses(Call.set(0, 2, 9)).row(0, 1, 2);
    }

    private static void bytes() {
        for (int row = 0; row < 3; row++) {
            Stories.agreeing().then(Call.set(row, 1, 0), true).due(Call.byteAt(row, 1), 0);
            Stories.agreeing().then(Call.set(row, 1, 255), true).due(Call.byteAt(row, 1), 255);
            for (Story story : Stories.all()) {
                for (int b : new int[] {-1, 256, -128, Integer.MIN_VALUE, Integer.MAX_VALUE}) {
                    story.refuses(Call.set(row, 0, b));
                }
            }
        }
    }
}
