/** Promise 8: byte i of a row. */
public final class Promise08ByteAtTest {
    private static final String WHERE = "Promise 8";

    public static void main(String[] args) {
        Check.sentence(WHERE, "Byte i (0 the first) of a row", Promise08ByteAtTest::bytes);
        Check.sentence(WHERE, "BAD when there is none.", Promise08ByteAtTest::none);
        Check.sentence("Promise 8 and Terms", "There is no row but 0 .. 3.", Promise08ByteAtTest::noSuchRow);
        Check.end();
    }

    private static void bytes() {
        int[] delta = Rows.delta(Rows.window(3, Rows.of(200, 0, 255), Rows.of(4), Rows.of()));
        Story story = new Story("each row has its own").put(0, 0, 255, 128).put(1, 5, 6).put(2, delta).then(Call.decode(3), 3);
        story.row(0, 0, 255, 128).row(1, 5, 6).row(2, delta).row(3, 200, 0, 255);
        Stories.full()
                .due(Call.byteAt(0, 0), 5).due(Call.byteAt(0, 47), 5)
                .due(Call.byteAt(1, 0), 6).due(Call.byteAt(1, 63), 6)
                .due(Call.byteAt(2, 0), 214).due(Call.byteAt(2, 998), 0).due(Call.byteAt(2, 999), 73)
                .due(Call.byteAt(3, 0), 3).due(Call.byteAt(3, 326), 3).due(Call.byteAt(3, 327), 4).due(Call.byteAt(3, 399), 4);
    }

    private static void none() {
        for (int k = 0; k < 4; k++) {
            for (int row = 0; row < 4; row++) {
                int has = Stories.lengths()[k][row];
                for (int i : new int[] {has, has + 1, -1, 1000, Integer.MIN_VALUE, Integer.MAX_VALUE}) {
                    Stories.all().get(k).refuses(Call.byteAt(row, i), DeltaWindows.BAD);
                }
            }
        }
        for (int row = 0; row < 3; row++) {
            new Story("a byte that was cut").put(row, 1, 2, 3).then(Call.cut(row, 2), true)
                    .due(Call.byteAt(row, 1), 2).refuses(Call.byteAt(row, 2), DeltaWindows.BAD);
        }
        Stories.agreeing().then(Call.cut(2, 5), true).then(Call.decode(0), 0)
                .refuses(Call.byteAt(3, 0), DeltaWindows.BAD).refuses(Call.byteAt(3, 25), DeltaWindows.BAD);
    }

    private static void noSuchRow() {
        for (Story story : Stories.all()) {
            for (int row : new int[] {-1, 4, Integer.MIN_VALUE, Integer.MAX_VALUE}) {
                story.refuses(Call.byteAt(row, 0), DeltaWindows.BAD);
            }
        }
    }
}
