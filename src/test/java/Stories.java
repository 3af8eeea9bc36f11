import java.util.List;

/** Stories whose ends are as different as they can be, for calls that must leave each of them as it is. */
final class Stories {
    private Stories() {
    }

    static List<Story> all() {
        return List.of(fresh(), agreeing(), differing(), full());
    }

    /** How many bytes the source, the target, the delta and the output have at the end of each of them. */
    static int[][] lengths() {
        return new int[][] {{0, 0, 0, 0}, {12, 26, 49, 26}, {12, 26, 31, 26}, {48, 64, 1000, 400}};
    }

    static Story fresh() {
        return new Story("a new object");
    }

    /** Caches of both sides are not 0, and output and target are the same. */
    static Story agreeing() {
        return new Story("output and target the same")
                .put(0, Rows.text("abcdefghijkl"))
                .put(1, Rows.text("cdefgXabcdYYYYYdefghZcdefg"))
                .then(Call.encode(11), 5 + 16 + 17 + 11)
                .then(Call.decode(26), 26);
    }

    /** The caches of both sides are not 0 and not the same, output and target are not the same, nor is the delta theirs. */
    static Story differing() {
        return agreeing()
                .then(Call.set(1, 22, 'b'), true)
                .then(Call.encode(64), 5 + 26)
                .then(Call.set(2, 14, 'W'), true)
                .then(Call.set(0, 0, 'k'), true);
    }

    /** All rows have as many bytes as they can have. */
    static Story full() {
        return new Story("all rows full")
                .put(0, Rows.same(5, 48))
                .put(1, Rows.same(6, 64))
                .put(2, greatDelta())
                .then(Call.decode(400), 400);
    }

    /** A delta of 1000 bytes that makes 400: 327 times an ADD of 1, and a RUN of 73. */
    static int[] greatDelta() {
        int[] data = Rows.join(Rows.same(3, 327), Rows.of(4));
        int[] codes = Rows.join(Rows.same(1, 2 * 327), Rows.of(0, 73));
        return Rows.delta(new Window(400).data(data).codes(codes).bytes());
    }
}
