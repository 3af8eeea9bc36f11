/** Promise 10: the caches at the end of the last window, of the encoder and of the decoder. */
public final class Promise10CacheTest {
    private static final String WHERE = "Promise 10";
    private static final int BAD = DeltaWindows.BAD;
    private static final int[] ZEROS = new int[4];

    public static void main(String[] args) {
        Check.sentence(WHERE, "0 before", Promise10CacheTest::before);
        Check.sentence(WHERE, "at the end of the last window of the latest encode (side 0)", Promise10CacheTest::encodeSide);
        Check.sentence(WHERE, "or of the latest decode that was not refused (side 1)", Promise10CacheTest::decodeSide);
        Check.sentence(WHERE, "the last window", Promise10CacheTest::lastWindowOnly);
        Check.sentence(WHERE, "for i = 0 .. 3 NEAR i, for i = 4 .. 771 SAME(i - 4)", Promise10CacheTest::places);
        Check.sentence(WHERE, "(A delta without windows leaves all 0.)", Promise10CacheTest::withoutWindows);
        Check.sentence(WHERE, "BAD when side is not 0 or 1", Promise10CacheTest::wrongSide);
        Check.sentence(WHERE, "or i is another", Promise10CacheTest::wrongPlace);
        Check.end();
    }

    private static void before() {
        Stories.fresh().caches(0, ZEROS).caches(1, ZEROS);
        Stories.full().caches(0, ZEROS);
        new Story("refused before").put(2, 1).then(Call.decode(1), DeltaWindows.ILLFORMED).then(Call.encode(0), BAD)
                .caches(0, ZEROS).caches(1, ZEROS);
    }

    private static Story sixCopies() {
        return new Story("six copies")
                .put(0, Rows.up(100, 48))
                .put(1, Rows.join(up(103), up(110), up(101), up(120), up(140), up(110)))
                .then(Call.encode(64), 5 + 3 + 1 + 5 + 6 + 6);
    }

    private static int[] up(int from) {
        return Rows.up(from, 4);
    }

    private static void encodeSide() {
        int[] near = {40, 10, 1, 20};
        int[] same = {3, 3, 10, 10, 1, 1, 20, 20, 40, 40};
        sixCopies().caches(0, near, same).caches(1, ZEROS);
        Story later = sixCopies().then(Call.encode(0), BAD).then(Call.encode(65), BAD).then(Call.cut(0, 0), true)
                .then(Call.cut(1, 0), true).then(Call.cut(2, 5), true).then(Call.decode(0), 0);
        later.caches(0, near, same);
        later.put(0, Rows.text("-abcd")).put(1, Rows.text("abcd")).then(Call.encode(64), 16).caches(0, Rows.of(1, 0, 0, 0), 1, 1);
    }

    private static Story fiveCopies() {
        int[] codes = {20, 20, 52, 36, 20};
        int[] addresses = {3, 5, 4, 2, 6};
        return new Story("five copies")
                .put(0, 1, 2, 3, 4, 5, 6, 7, 8)
                .put(2, Rows.delta(new Window(20).from(1, 8, 0).codes(codes).addresses(addresses).bytes()))
                .then(Call.decode(20), 20);
    }

    private static void decodeSide() {
        // The fourth address is 2 before here, which is 8 + 12.
        int[] near = {6, 5, 7, 18};
        int[] same = {3, 3, 5, 5, 7, 7, 18, 18, 6, 6};
        fiveCopies().caches(1, near, same).caches(0, ZEROS);
        Story later = fiveCopies()
                .then(Call.decode(19), DeltaWindows.TOOLONG)
                .then(Call.decode(401), BAD)
                .then(Call.put(2, 3, 1), true)
                .then(Call.decode(20), DeltaWindows.ILLFORMED)
                .then(Call.encode(64), 5);
        later.caches(1, near, same);
        later.fill(2, Rows.delta(new Window(1).from(1, 8, 0).codes(19, 1).addresses(7).bytes())).then(Call.decode(1), 1)
                .caches(1, Rows.of(7, 0, 0, 0), 7, 7);
    }

    private static void lastWindowOnly() {
        Story story = new Story("two windows with copies")
                .put(0, Rows.text("-abcdefgh")).put(1, Rows.text("abcdefghcdef"))
                .then(Call.encode(8), 5 + 2 * (3 + 1 + 5 + 2))
                .then(Call.decode(12), 12);
        story.caches(0, Rows.of(3, 0, 0, 0), 3, 3).caches(1, Rows.of(3, 0, 0, 0), 3, 3);
        story.then(Call.set(1, 9, 0), true).then(Call.encode(8), 5 + 3 + 1 + 5 + 2 + 3 + 1 + 5 + 5);
        story.caches(0, ZEROS).caches(1, Rows.of(3, 0, 0, 0), 3, 3);
        story.then(Call.decode(12), 12).caches(1, ZEROS);
    }

    /** All four NEAR, SAME(0), and the greatest address there can be: one byte is left of 400 behind a segment of 48. */
    private static void places() {
        int[] codes = {0, 131, 12, 19, 1, 19, 1, 35, 1, 19, 1};
        int[] addresses = {131, 59, 0, 1, 131, 62};
        Story far = new Story("far addresses")
                .put(0, Rows.same(5, 48))
                .put(2, Rows.delta(new Window(400).from(1, 48, 0).data(9).codes(codes).addresses(addresses).bytes()))
                .then(Call.decode(400), 400);
        far.caches(1, Rows.of(443, 0, 445, 446), 443, 443, 445, 445, 446, 446);
        far.due(Call.cache(1, 0), 443).due(Call.cache(1, 3), 446).due(Call.cache(1, 4), 0);
        far.due(Call.cache(1, 450), 446).due(Call.cache(1, 771), 0);
    }

    private static void withoutWindows() {
        Story encoded = sixCopies().then(Call.decode(64), 24).then(Call.cut(1, 0), true).then(Call.encode(64), 5);
        encoded.caches(0, ZEROS).due(Call.cache(1, 0), 40);
        encoded.then(Call.decode(0), 0).caches(1, ZEROS);
        Story window = fiveCopies().fill(2, Rows.delta(new Window(0).bytes())).then(Call.decode(0), 0);
        window.caches(1, ZEROS);
    }

    private static void wrongSide() {
        for (Story story : Stories.all()) {
            for (int side : new int[] {-1, 2, Integer.MIN_VALUE, Integer.MAX_VALUE}) {
                story.refuses(Call.cache(side, 0), BAD).refuses(Call.cache(side, 771), BAD);
            }
        }
    }

    private static void wrongPlace() {
        for (Story story : Stories.all()) {
            for (int i : new int[] {-1, 772, Integer.MIN_VALUE, Integer.MAX_VALUE}) {
                story.refuses(Call.cache(0, i), BAD).refuses(Call.cache(1, i), BAD);
            }
            for (int side = 0; side < 2; side++) {
                story.due(Call.cache(side, 771), 0);
            }
        }
    }
}
