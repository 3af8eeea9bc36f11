/** What it is: a delta that is written is read back; one that is not well formed is refused; 512 calls are answered. */
public final class WhatItIsTest {
    private static final String WHERE = "What it is";
    private static final String[] TEXTS = {
        "", "a", "aaaa", "abcd", "abcdefgh", "abababababab", "aaaabbbbccccaaaabbbb",
        "the cat sat on the mat and the cat ate", "0123456789ABCDEFGHIJKLMNOPQRSTUVWXYZabcdefghijkl",
    };
    private static final String[] TARGETS = {
        "", "x", "abcd", "aaaaaaaaaaaaaaaaaaaaaaaaaaaaaaaaaaaaaaaaaaaaaaaaaaaaaaaaaaaaaaaa",
        "abcdxabcdyabcdzabcd", "the mat sat on the cat, the mat ate the cat and the cat",
        "0123456789ABCDEFGHIJ0123456789ABCDEFGHIJ9876543210abcdefghijkl",
        "abababababcdcdcdcdcdabababababababababaaaaaaaabbbbbbbbbbbbbcdcd",
    };

    public static void main(String[] args) {
        Check.sentence(WHERE, "Writes the difference of two rows of bytes as a delta of windows", WhatItIsTest::writesAndReads);
        Check.sentence(WHERE, "and reads such deltas, refusing every one that is not well formed", WhatItIsTest::everyOtherByte);
        Check.sentence(WHERE, "An object is used for at most 512 calls after it has been made", WhatItIsTest::lastCall);
        Check.sentence("README.md", "Use", WhatItIsTest::exampleOfTheReadme);
        Check.end();
    }

    private static void writesAndReads() {
        for (String source : TEXTS) {
            for (String target : TARGETS) {
                for (int w = 1; w <= 64; w++) {
                    readBack(source, target, w);
                }
            }
        }
    }

    private static void readBack(String source, String target, int w) {
        String what = "'" + source + "' to '" + target + "' by " + w + ": ";
        DeltaWindows x = new DeltaWindows();
        Rows.fill(x, Rows.SOURCE, Rows.text(source));
        Rows.fill(x, Rows.TARGET, Rows.text(target));
        int n = target.length();
        Check.due(what, "encode", x.encode(w), x.length(Rows.DELTA));
        Check.due(what, "decode", x.decode(n), n);
        Check.due(what, "agrees", x.agrees() ? 1 : 0, 1);
        Check.due(what, "windows", x.windows(), (n + w - 1) / w);
        Check.due(what, "decode of one less", x.decode(n - 1), n == 0 ? DeltaWindows.BAD : DeltaWindows.TOOLONG);
        for (int i = 0; i < 4 + 112; i++) {
            Check.due(what, "the two sides of the caches", x.cache(0, i), x.cache(1, i));
        }
    }

    /** Each byte of a delta becomes each other byte: what is then well formed or too long, the model says. */
    private static void everyOtherByte() {
        int[] first = new Window(13).from(1, 5, 1).data(1, 2, 3).codes(247, 0, 3, 163 + 12 * 2).addresses(2, 1).bytes();
        int[] second = new Window(14).from(2, 6, 3).data(9, 8).codes(19, 5, 3, 19 + 16, 3, 116).addresses(4, 2, 4).bytes();
        int[] delta = Rows.delta(first, second);
        for (int i = 0; i < delta.length; i++) {
            for (int from = 0; from < 256; from += 64) {
                Pair pair = new Pair("byte " + i);
                pair.putAll(0, 40, 41, 42, 43, 44, 45, 46);
                pair.putAll(2, delta);
                Check.due("the delta itself", pair.decode(27), 27);
                for (int b = from; b < from + 64; b++) {
                    pair.set(2, i, b);
                    pair.decode(400);
                    pair.decode(27);
                    pair.length(3);
                    pair.byteAt(3, 26);
                    pair.cache(1, 0);
                }
                pair.compareRow(3);
                pair.windows();
            }
        }
    }

    /** The 512th call is still answered as the first one. */
    private static void lastCall() {
        Story story = new Story("511 calls before").put(0, Rows.text("-abcd")).put(1, Rows.text("abcd"));
        while (story.left() > 3) {
            story.then(Call.put(1, 'z', 1), true).then(Call.cut(1, 4), true);
        }
        while (story.left() > 1) {
            story.then(Call.encode(64), 16);
        }
        story.due(Call.encode(64), 16).due(Call.decode(4), 4).due(Call.cache(0, 0), 1).due(Call.put(0, 1, 16), true);
        story.due(Call.put(0, 1, 17), false).due(Call.byteAt(2, 15), 1).due(Call.agrees(), false);
    }

    private static void exampleOfTheReadme() {
        DeltaWindows x = new DeltaWindows();
        for (char c : "abcde".toCharArray()) {
            Check.due("put(0)", x.put(0, c, 1), true);
        }
        for (char c : "abcdxbcde".toCharArray()) {
            Check.due("put(1)", x.put(1, c, 1), true);
        }
        Check.due("encode(64)", x.encode(64), 19);
        Check.due("decode(400)", x.decode(400), 9);
        Check.due("agrees()", x.agrees(), true);
        Check.due("set(2, 15, 0)", x.set(2, 15, 0), true);
        Check.due("the ill formed one", x.decode(400), DeltaWindows.ILLFORMED);
        Check.due("length(3)", x.length(3), 9);
    }
}
