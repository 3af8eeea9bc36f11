/** The bytes of a window, any part of which may be written otherwise than it should be. */
final class Window {
    static final int FIRST = 0;
    static final int SEGMENT_SIZE = 1;
    static final int SEGMENT_PLACE = 2;
    static final int FOLLOWING = 3;
    static final int LENGTH = 4;
    static final int BEHIND = 5;
    static final int DATA_SIZE = 6;
    static final int CODES_SIZE = 7;
    static final int ADDRESSES_SIZE = 8;
    private static final int DATA = 9;
    private static final int CODES = 10;
    private static final int ADDRESSES = 11;
    private final int[][] parts = new int[12][];

    /** A window of this length, without segment and as yet without instructions. */
    Window(int length) {
        for (int part = 0; part < parts.length; part++) {
            parts[part] = Rows.of();
        }
        parts[FIRST] = Rows.of(0);
        parts[FOLLOWING] = null;
        parts[LENGTH] = integer(length);
        parts[BEHIND] = Rows.of(0);
        data();
        codes();
        addresses();
    }

    /** In as few bytes as possible. */
    static int[] integer(long value) {
        int n = 1;
        while (n < 5 && value >> (7 * n) > 0) {
            n++;
        }
        return integer(value, n);
    }

    /** In so many bytes, those that are too many being 128. */
    static int[] integer(long value, int n) {
        int[] bytes = new int[n];
        for (int k = 0; k < n; k++) {
            int shift = 7 * (n - 1 - k);
            int seven = shift > 56 ? 0 : (int) (value >> shift) & 127;
            bytes[k] = k < n - 1 ? 128 + seven : seven;
        }
        return bytes;
    }

    Window from(int first, int size, int place) {
        parts[FIRST] = Rows.of(first);
        parts[SEGMENT_SIZE] = integer(size);
        parts[SEGMENT_PLACE] = integer(place);
        return this;
    }

    Window data(int... bytes) {
        parts[DATA] = bytes;
        parts[DATA_SIZE] = integer(bytes.length);
        return this;
    }

    Window codes(int... bytes) {
        parts[CODES] = bytes;
        parts[CODES_SIZE] = integer(bytes.length);
        return this;
    }

    Window addresses(int... bytes) {
        parts[ADDRESSES] = bytes;
        parts[ADDRESSES_SIZE] = integer(bytes.length);
        return this;
    }

    /** This part is written by these bytes. */
    Window with(int part, int... bytes) {
        parts[part] = bytes;
        return this;
    }

    /** How many bytes do follow behind the integer that says it. */
    int following() {
        int n = 0;
        for (int part = LENGTH; part < parts.length; part++) {
            n += parts[part].length;
        }
        return n;
    }

    int[] bytes() {
        int[] following = parts[FOLLOWING] == null ? integer(following()) : parts[FOLLOWING];
        int[] all = {};
        for (int part = 0; part < parts.length; part++) {
            all = Rows.join(all, part == FOLLOWING ? following : parts[part]);
        }
        return all;
    }
}
