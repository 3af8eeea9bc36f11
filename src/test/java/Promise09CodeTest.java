/** Promise 9: the parts of the codes, each held against a table that is laid out in the document's order. */
public final class Promise09CodeTest {
    private static final String WHERE = "Promise 9";
    private static final int ADD = 1;
    private static final int RUN = 2;
    private static final int COPY = 3;
    private static int next = 0;

    public static void main(String[] args) {
        Check.sentence(WHERE, "Of code k: part 0 the kind of the first instruction, 1 its size", Promise09CodeTest::allCodes);
        Check.sentence(WHERE, "2 its mode (0 when it is no COPY)", Promise09CodeTest::firstMode);
        Check.sentence(WHERE, "3, 4 and 5 the same of the second one (all 0 when there is none)", Promise09CodeTest::second);
        Check.sentence(WHERE, "BAD when k is not 0 .. 255", Promise09CodeTest::wrongCode);
        Check.sentence(WHERE, "or part is not 0 .. 5", Promise09CodeTest::wrongPart);
        Check.end();
    }

    private static void allCodes() {
        expect(RUN, 0, 0, 0, 0, 0);
        for (int size = 0; size <= 17; size++) {
            expect(ADD, size, 0, 0, 0, 0);
        }
        for (int mode = 0; mode <= 8; mode++) {
            expect(COPY, 0, mode, 0, 0, 0);
            for (int size = 4; size <= 18; size++) {
                expect(COPY, size, mode, 0, 0, 0);
            }
        }
        for (int mode = 0; mode <= 8; mode++) {
            for (int add = 1; add <= 4; add++) {
                for (int copy = 4; copy <= (mode <= 5 ? 6 : 4); copy++) {
                    expect(ADD, add, 0, COPY, copy, mode);
                }
            }
        }
        for (int mode = 0; mode <= 8; mode++) {
            expect(COPY, 4, mode, ADD, 1, 0);
        }
        Check.due("how many codes", next, 256);
    }

    private static void expect(int... parts) {
        DeltaWindows x = new DeltaWindows();
        for (int part = 0; part < 6; part++) {
            Check.due("code(" + next + ", " + part + ")", x.code(next, part), parts[part]);
        }
        next++;
    }

    private static void due(int part, int answer, int... codes) {
        for (int k : codes) {
            Stories.agreeing().due(Call.code(k, part), answer);
        }
    }

    private static void firstMode() {
        due(2, 0, 0, 1, 2, 18, 163, 200, 234, 235, 246);
        due(2, 0, 19, 34, 247);
        due(2, 1, 35, 50, 248);
        due(2, 8, 147, 162, 255);
    }

    private static void second() {
        for (int part = 3; part <= 5; part++) {
            due(part, 0, 0, 1, 2, 18, 19, 34, 35, 147, 162);
        }
        due(3, COPY, 163, 234, 235, 246);
        due(3, ADD, 247, 255);
        due(4, 4, 163, 232, 235, 246);
        due(4, 6, 165, 234);
        due(4, 1, 247, 255);
        due(5, 0, 163, 174, 247, 255);
        due(5, 5, 223, 234);
        due(5, 6, 235, 238);
        due(5, 8, 243, 246);
    }

    private static void wrongCode() {
        for (Story story : Stories.all()) {
            for (int k : new int[] {-1, 256, Integer.MIN_VALUE, Integer.MAX_VALUE}) {
                for (int part = 0; part < 6; part++) {
                    story.refuses(Call.code(k, part), DeltaWindows.BAD);
                }
            }
            story.due(Call.code(0, 0), RUN).due(Call.code(255, 0), COPY);
        }
    }

    private static void wrongPart() {
        for (Story story : Stories.all()) {
            for (int part : new int[] {-1, 6, Integer.MIN_VALUE, Integer.MAX_VALUE}) {
                for (int k : new int[] {0, 1, 2, 18, 19, 162, 163, 234, 235, 246, 247, 255}) {
                    story.refuses(Call.code(k, part), DeltaWindows.BAD);
                }
            }
            story.due(Call.code(234, 0), ADD).due(Call.code(234, 5), 5);
        }
    }
}
