import java.util.ArrayList;
import java.util.List;

/** Terms: the codes, as code tells them and as decode follows them, from the first to the last of each range. */
public final class TermsCodesTest {
    private static final String WHERE = "Terms, codes";
    private static final int ADD = 1;
    private static final int RUN = 2;
    private static final int COPY = 3;
    private static final int[] SOURCE = Rows.up(100, 48);
    private static final int[] NEAR = {3, 7, 11, 15};
    private static boolean[] seen = new boolean[256];

    public static void main(String[] args) {
        Check.sentence(WHERE, "0: RUN of size 0.", () -> {
            for (int size : new int[] {1, 2, 127, 128, 300}) {
                follows(0, size, RUN, 0, 0);
            }
        });
        Check.sentence(WHERE, "1: ADD of size 0", () -> {
            for (int size : new int[] {1, 2, 17, 18, 127, 128, 130}) {
                follows(1, size, ADD, 0, 0);
            }
        });
        Check.sentence(WHERE, "2 .. 18: ADD of size 1 .. 17.", () -> {
            follows(2, 0, ADD, 1, 0);
            follows(18, 0, ADD, 17, 0);
            for (int size = 1; size <= 17; size++) {
                follows(1 + size, 0, ADD, size, 0);
            }
        });
        Check.sentence(WHERE, "19 + 16 m, for m = 0 .. 8: COPY of size 0, mode m", TermsCodesTest::copiesOfAnySize);
        Check.sentence(WHERE, "19 + 16 m + j, for j = 1 .. 15: COPY of size 3 + j, mode m.", TermsCodesTest::copiesWithSize);
        Check.sentence(WHERE, "163 + 12 m + 3 (i - 1) + (j - 4), for m = 0 .. 5, i = 1 .. 4, j = 4 .. 6: ADD of size i, then COPY of size j, mode m.",
                TermsCodesTest::addThenCopy);
        Check.sentence(WHERE, "235 + 4 (m - 6) + (i - 1), for m = 6 .. 8, i = 1 .. 4: ADD of size i, then COPY of size 4, mode m.",
                TermsCodesTest::addThenCopyOfSame);
        Check.sentence(WHERE, "247 + m, for m = 0 .. 8: COPY of size 4, mode m, then ADD of size 1.", TermsCodesTest::copyThenAdd);
        Check.sentence(WHERE, "THE CODES 0 .. 255 stand for one or two INSTRUCTIONS", TermsCodesTest::allCodes);
        Check.end();
    }

    private static void copiesOfAnySize() {
        for (int m = 0; m <= 8; m++) {
            for (int size : new int[] {1, 3, 4, 18, 19, 127, 128, 300}) {
                follows(19 + 16 * m, size, COPY, 0, m);
            }
        }
    }

    private static void copiesWithSize() {
        follows(20, 0, COPY, 4, 0);
        follows(34, 0, COPY, 18, 0);
        follows(148, 0, COPY, 4, 8);
        follows(162, 0, COPY, 18, 8);
        for (int m = 0; m <= 8; m++) {
            for (int j = 1; j <= 15; j++) {
                follows(19 + 16 * m + j, 0, COPY, 3 + j, m);
            }
        }
    }

    private static void addThenCopy() {
        follows(163, 0, ADD, 1, 0, COPY, 4, 0);
        follows(234, 0, ADD, 4, 0, COPY, 6, 5);
        for (int m = 0; m <= 5; m++) {
            for (int i = 1; i <= 4; i++) {
                for (int j = 4; j <= 6; j++) {
                    follows(163 + 12 * m + 3 * (i - 1) + (j - 4), 0, ADD, i, 0, COPY, j, m);
                }
            }
        }
    }

    private static void addThenCopyOfSame() {
        follows(235, 0, ADD, 1, 0, COPY, 4, 6);
        follows(246, 0, ADD, 4, 0, COPY, 4, 8);
        for (int m = 6; m <= 8; m++) {
            for (int i = 1; i <= 4; i++) {
                follows(235 + 4 * (m - 6) + (i - 1), 0, ADD, i, 0, COPY, 4, m);
            }
        }
    }

    private static void copyThenAdd() {
        follows(247, 0, COPY, 4, 0, ADD, 1, 0);
        follows(255, 0, COPY, 4, 8, ADD, 1, 0);
        for (int m = 0; m <= 8; m++) {
            follows(247 + m, 0, COPY, 4, m, ADD, 1, 0);
        }
    }

    private static void allCodes() {
        for (int k = 0; k < 256; k++) {
            Check.due("a range has code " + k, seen[k], true);
        }
        Stories.agreeing().refuses(Call.code(-1, 0), DeltaWindows.BAD).refuses(Call.code(256, 0), DeltaWindows.BAD);
    }

    /** Code k has these parts, and a window does what they say; size is written behind the code when that has size 0. */
    private static void follows(int k, int size, int... parts) {
        seen[k] = true;
        for (int part = 0; part < 6; part++) {
            Stories.fresh().due(Call.code(k, part), part < parts.length ? parts[part] : 0);
        }
        List<Integer> string = new ArrayList<>();
        for (int b : SOURCE) {
            string.add(b);
        }
        for (int a : NEAR) {
            copy(string, a, 4);
        }
        int[] data = {};
        int[] addresses = NEAR;
        for (int p = 0; p < parts.length; p += 3) {
            int n = parts[p + 1] == 0 ? size : parts[p + 1];
            if (parts[p] == COPY) {
                addresses = Rows.join(addresses, Rows.of(addressWritten(parts[p + 2])));
                copy(string, address(parts[p + 2], string.size()), n);
            } else {
                int[] more = parts[p] == ADD ? Rows.up(50, n) : Rows.of(49);
                data = Rows.join(data, more);
                for (int i = 0; i < n; i++) {
                    string.add(parts[p] == ADD ? more[i] : 49);
                }
            }
        }
        int[] output = string.stream().skip(48).mapToInt(b -> b).toArray();
        int[] codes = Rows.join(Rows.of(20, 20, 20, 20, k), size == 0 ? Rows.of() : Window.integer(size));
        Window window = new Window(output.length).from(1, 48, 0).data(data).codes(codes).addresses(addresses);
        Decoding.good("code " + k, SOURCE, Rows.delta(window.bytes()), output);
    }

    private static void copy(List<Integer> string, int a, int n) {
        for (int i = 0; i < n; i++) {
            string.add(string.get(a + i));
        }
    }

    private static int addressWritten(int mode) {
        return mode == 0 ? 21 : mode == 1 ? 9 : mode <= 5 ? 2 : 11;
    }

    private static int address(int mode, int here) {
        if (mode <= 1) {
            return mode == 0 ? 21 : here - 9;
        }
        return mode <= 5 ? NEAR[mode - 2] + 2 : mode == 6 ? 11 : 0;
    }
}
