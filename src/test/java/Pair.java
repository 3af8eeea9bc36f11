/** An object of DeltaWindows and a model; each call goes to both, and their answers are compared. */
final class Pair {
    private static final int CALLS_MOST = 512;
    private final String name;
    private final DeltaWindows real = new DeltaWindows();
    final Model model = new Model();
    private int calls = 0;

    Pair(String name) {
        this.name = name;
    }

    int left() {
        return CALLS_MOST - calls;
    }

    private int compare(String call, int got, int want) {
        calls++;
        Check.due(name + ", call " + calls + ": " + call, got, want);
        return want;
    }

    private boolean compare(String call, boolean got, boolean want) {
        return compare(call, got ? 1 : 0, want ? 1 : 0) == 1;
    }

    boolean put(int row, int b, int n) {
        return left() > 0 && compare("put(" + row + ", " + b + ", " + n + ")", real.put(row, b, n), model.put(row, b, n));
    }

    boolean cut(int row, int n) {
        return left() > 0 && compare("cut(" + row + ", " + n + ")", real.cut(row, n), model.cut(row, n));
    }

    boolean set(int row, int i, int b) {
        return left() > 0 && compare("set(" + row + ", " + i + ", " + b + ")", real.set(row, i, b), model.set(row, i, b));
    }

    int encode(int w) {
        return left() > 0 ? compare("encode(" + w + ")", real.encode(w), model.encode(w)) : 0;
    }

    int decode(int bound) {
        return left() > 0 ? compare("decode(" + bound + ")", real.decode(bound), model.decode(bound)) : 0;
    }

    int length(int row) {
        return left() > 0 ? compare("length(" + row + ")", real.length(row), model.length(row)) : 0;
    }

    int byteAt(int row, int i) {
        return left() > 0 ? compare("byteAt(" + row + ", " + i + ")", real.byteAt(row, i), model.byteAt(row, i)) : 0;
    }

    int code(int k, int part) {
        return left() > 0 ? compare("code(" + k + ", " + part + ")", real.code(k, part), model.code(k, part)) : 0;
    }

    int cache(int side, int i) {
        return left() > 0 ? compare("cache(" + side + ", " + i + ")", real.cache(side, i), model.cache(side, i)) : 0;
    }

    void windows() {
        if (left() > 0) {
            compare("windows()", real.windows(), model.windows());
        }
    }

    void agrees() {
        if (left() > 0) {
            compare("agrees()", real.agrees(), model.agrees());
        }
    }

    /** Puts the bytes behind what the row has, equal ones that stand side by side in one call. */
    void putAll(int row, int... bytes) {
        int i = 0;
        while (i < bytes.length) {
            int n = 1;
            while (n < 16 && i + n < bytes.length && bytes[i + n] == bytes[i]) {
                n++;
            }
            put(row, bytes[i], n);
            i += n;
        }
    }

    void compareRow(int row) {
        int n = length(row);
        for (int i = 0; i < n; i++) {
            byteAt(row, i);
        }
    }
}
