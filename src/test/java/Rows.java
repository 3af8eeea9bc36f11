import java.util.Arrays;

/** Fills rows and puts deltas together. */
final class Rows {
    static final int SOURCE = 0;
    static final int TARGET = 1;
    static final int DELTA = 2;
    static final int OUTPUT = 3;
    static final int[] HEAD = {214, 195, 196, 0, 0};

    private Rows() {
    }

    static int[] text(String s) {
        return s.chars().toArray();
    }

    static int[] join(int[]... parts) {
        int[] all = {};
        for (int[] part : parts) {
            int from = all.length;
            all = Arrays.copyOf(all, from + part.length);
            System.arraycopy(part, 0, all, from, part.length);
        }
        return all;
    }

    static int[] of(int... bytes) {
        return bytes;
    }

    /** n times the byte. */
    static int[] same(int b, int n) {
        int[] bytes = new int[n];
        Arrays.fill(bytes, b);
        return bytes;
    }

    /** n bytes, each one more than the one before. */
    static int[] up(int from, int n) {
        int[] bytes = new int[n];
        for (int i = 0; i < n; i++) {
            bytes[i] = from + i;
        }
        return bytes;
    }

    /** Empties the row and puts the bytes, equal ones that stand side by side in one call. */
    static void fill(DeltaWindows x, int row, int... bytes) {
        Check.due("cut(" + row + ", 0)", x.cut(row, 0), true);
        int i = 0;
        while (i < bytes.length) {
            int n = 1;
            while (n < 16 && i + n < bytes.length && bytes[i + n] == bytes[i]) {
                n++;
            }
            Check.due("put(" + row + ", " + bytes[i] + ", " + n + ")", x.put(row, bytes[i], n), true);
            i += n;
        }
    }

    /** A window without segment whose integers are all below 128. */
    static int[] window(int length, int[] data, int[] codes, int[] addresses) {
        return join(of(0), body(length, data, codes, addresses));
    }

    /** A window with segment whose integers are all below 128. */
    static int[] window(int from, int size, int place, int[] body) {
        return join(of(from, size, place), body);
    }

    /** What stands behind a window's segment. */
    static int[] body(int length, int[] data, int[] codes, int[] addresses) {
        int following = 5 + data.length + codes.length + addresses.length;
        return join(of(following, length, 0, data.length, codes.length, addresses.length), data, codes, addresses);
    }

    static int[] delta(int[]... windows) {
        return join(HEAD, join(windows));
    }

    /** A new object with this source and this delta. */
    static DeltaWindows with(int[] source, int[] delta) {
        DeltaWindows x = new DeltaWindows();
        fill(x, SOURCE, source);
        fill(x, DELTA, delta);
        return x;
    }
}
