/** Promise 9: the codes, each held against a table that is laid out in the document's order. */
public final class Promise09CodeTest {
    private static final int ADD = 1;
    private static final int RUN = 2;
    private static final int COPY = 3;
    private static int next = 0;

    public static void main(String[] args) {
        expect(RUN, 0, 0, 0, 0, 0);
        for (int size = 0; size <= 17; size++) {
            expect(ADD, size, 0, 0, 0, 0);
        }
        for (int mode = 0; mode <= 8; mode++) {
            expect(COPY, 0, mode, 0, 0, 0);
            for (int size = 4; size <= 18; size++) {
                expect(COPY, size, mode, 0, 0, 0);
            }
        }
        for (int mode = 0; mode <= 8; mode++) {
            for (int add = 1; add <= 4; add++) {
                for (int copy = 4; copy <= (mode <= 5 ? 6 : 4); copy++) {
                    expect(ADD, add, 0, COPY, copy, mode);
                }
            }
        }
        for (int mode = 0; mode <= 8; mode++) {
            expect(COPY, 4, mode, ADD, 1, 0);
        }
        Check.due("how many codes", next, 256);
        DeltaWindows x = new DeltaWindows();
        for (int k : new int[] {-1, 256, 1000, Integer.MIN_VALUE, Integer.MAX_VALUE}) {
            for (int part = 0; part < 6; part++) {
                Check.due("code(" + k + ", " + part + ")", x.code(k, part), DeltaWindows.BAD);
            }
        }
        for (int part : new int[] {-1, 6, Integer.MIN_VALUE, Integer.MAX_VALUE}) {
            for (int k : new int[] {0, 1, 100, 163, 235, 247, 255}) {
                Check.due("code(" + k + ", " + part + ")", x.code(k, part), DeltaWindows.BAD);
            }
        }
        Check.end();
    }

    private static void expect(int... parts) {
        DeltaWindows x = new DeltaWindows();
        for (int part = 0; part < 6; part++) {
            Check.due("code(" + next + ", " + part + ")", x.code(next, part), parts[part]);
        }
        next++;
    }
}
