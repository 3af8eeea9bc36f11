/** Terms: windows, their segments, and what ADD, RUN and COPY append. */
public final class TermsWindowTest {
    private static final String WHERE = "Terms, windows";
    private static final int[] NOTHING = {};

    public static void main(String[] args) {
        Check.sentence(WHERE, "A WINDOW makes so many bytes as its LENGTH says", TermsWindowTest::lengths);
        Check.sentence(WHERE, "It has a SEGMENT of bytes that are there already (perhaps none)", TermsWindowTest::segments);
        Check.sentence(WHERE, "the STRING is the segment and behind it what the window has made so far", TermsWindowTest::string);
        Check.sentence(WHERE, "ADD of size n appends the next n bytes of the DATA.", TermsWindowTest::adds);
        Check.sentence(WHERE, "RUN appends the next byte of the data n times.", TermsWindowTest::runs);
        Check.sentence(WHERE, "COPY with the ADDRESS a, which is less than here", TermsWindowTest::addressesBelowHere);
        Check.sentence(WHERE, "(the string grows as it goes on, so these bytes may be among those that it appends)",
                TermsWindowTest::copyOfWhatItAppends);
        Check.sentence(WHERE, "2 when it is from the output that earlier windows have made", TermsWindowTest::fromTheOutput);
        Check.end();
    }

    private static int[] add(int... data) {
        return new Window(data.length).data(data).codes(Rows.join(Rows.of(1), Window.integer(data.length))).bytes();
    }

    private static void lengths() {
        Decoding.good("no window", NOTHING, Rows.HEAD);
        Decoding.good("a window of no bytes", NOTHING, Rows.delta(new Window(0).bytes())).due(Call.windows(), 1);
        Decoding.good("a window of one byte", NOTHING, Rows.delta(add(7)), 7);
        Decoding.good("no byte between two", NOTHING, Rows.delta(add(7), new Window(0).bytes(), add(8)), 7, 8);
        Decoding.good("a window of 400 bytes", NOTHING, Rows.delta(new Window(400).data(7).codes(0, 131, 16).bytes()), Rows.same(7, 400));
        Decoding.ill("a window of one byte that makes none", NOTHING, Rows.delta(new Window(1).bytes()));
        Decoding.ill("a window of no bytes that makes one", NOTHING, Rows.delta(new Window(0).data(7).codes(2).bytes()));
    }

    private static void segments() {
        int[] source = Rows.up(1, 48);
        int[] run = {6, 6};
        Decoding.good("none", source, Rows.delta(new Window(2).data(6).codes(0, 2).bytes()), run);
        Decoding.good("of length 0 from the source", source, Rows.delta(new Window(2).from(1, 0, 0).data(6).codes(0, 2).bytes()), run);
        Decoding.good("of length 0 from no source", NOTHING, Rows.delta(new Window(2).from(1, 0, 0).data(6).codes(0, 2).bytes()), run);
        Decoding.good("of length 0 from no output", source, Rows.delta(new Window(2).from(2, 0, 0).data(6).codes(0, 2).bytes()), run);
        Decoding.good("the first byte", source, Rows.delta(new Window(1).from(1, 1, 0).codes(19, 1).addresses(0).bytes()), 1);
        Decoding.good("the last byte", source, Rows.delta(new Window(1).from(1, 1, 47).codes(19, 1).addresses(0).bytes()), 48);
        Decoding.good("all bytes", source, Rows.delta(new Window(48).from(1, 48, 0).codes(19, 48).addresses(0).bytes()), source);
        Decoding.ill("a segment of no bytes has no byte 0", source, Rows.delta(new Window(1).from(1, 0, 0).codes(19, 1).addresses(0).bytes()));
        Decoding.ill("no segment has no byte 0", source, Rows.delta(new Window(1).codes(19, 1).addresses(0).bytes()));
    }

    private static void string() {
        int[] source = {1, 2, 3, 4, 5};
        Window over = new Window(6).from(1, 2, 1).data(8, 9).codes(3, 19, 4).addresses(0);
        Decoding.good("over the segment's end", source, Rows.delta(over.bytes()), 8, 9, 2, 3, 8, 9);
        Window last = new Window(3).from(1, 2, 3).data(8, 9).codes(3, 19, 1).addresses(1);
        Decoding.good("the segment's last byte", source, Rows.delta(last.bytes()), 8, 9, 5);
        Window first = new Window(3).from(1, 2, 3).data(8, 9).codes(3, 19, 1).addresses(2);
        Decoding.good("the first byte behind it", source, Rows.delta(first.bytes()), 8, 9, 8);
        Window own = new Window(5).data(9).codes(163).addresses(0);
        Decoding.good("what an earlier window has made is not in it", source, Rows.delta(add(1, 2), own.bytes()), 1, 2, 9, 9, 9, 9, 9);
    }

    private static void adds() {
        Decoding.good("of 1", NOTHING, Rows.delta(add(255)), 255);
        Decoding.good("of 200", NOTHING, Rows.delta(add(Rows.up(3, 200))), Rows.up(3, 200));
        Decoding.good("of 400", NOTHING, Rows.delta(add(Rows.same(3, 400))), Rows.same(3, 400));
        Window two = new Window(5).data(1, 2, 3, 4, 5).codes(3, 4);
        Decoding.good("the next ones", NOTHING, Rows.delta(two.bytes()), 1, 2, 3, 4, 5);
    }

    private static void runs() {
        for (int n : new int[] {1, 2, 127, 128, 400}) {
            Window run = new Window(n).data(255).codes(Rows.join(Rows.of(0), Window.integer(n)));
            Decoding.good("of " + n, NOTHING, Rows.delta(run.bytes()), Rows.same(255, n));
        }
        Window mixed = new Window(7).data(1, 2, 3, 4).codes(0, 2, 3, 0, 3);
        Decoding.good("one byte of the data each", NOTHING, Rows.delta(mixed.bytes()), 1, 1, 2, 3, 4, 4, 4);
    }

    /** The greatest address is here - 1 and the next one is refused, with segments of 0, 1 and 48 and with bytes made. */
    private static void addressesBelowHere() {
        for (int segment : new int[] {0, 1, 2, 48}) {
            for (int made : new int[] {0, 1, 2, 100}) {
                int[] source = Rows.up(1, segment);
                int[] data = Rows.up(60, made);
                int[] string = Rows.join(source, data);
                int[] codes = Rows.join(made == 0 ? NOTHING : Rows.join(Rows.of(1), Window.integer(made)), Rows.of(19, 1));
                for (int a : new int[] {0, string.length - 1, string.length, string.length + 1, 1000}) {
                    Window window = new Window(made + 1).from(1, segment, 0).data(data).codes(codes)
                            .addresses(Window.integer(Math.max(0, a)));
                    String what = "segment " + segment + ", made " + made + ", address " + a;
                    if (a >= 0 && a < string.length) {
                        Decoding.good(what, source, Rows.delta(window.bytes()), Rows.join(data, Rows.of(string[a])));
                    } else {
                        Decoding.ill(what, source, Rows.delta(window.bytes()));
                    }
                }
            }
        }
    }

    private static void copyOfWhatItAppends() {
        Window one = new Window(400).data(7).codes(2, 19, 131, 15).addresses(0);
        Decoding.good("399 of the one byte before", NOTHING, Rows.delta(one.bytes()), Rows.same(7, 400));
        Window two = new Window(9).data(1, 2).codes(3, 19, 7).addresses(0);
        Decoding.good("two bytes again and again", NOTHING, Rows.delta(two.bytes()), 1, 2, 1, 2, 1, 2, 1, 2, 1);
        Window last = new Window(6).data(1, 2).codes(3, 19, 4).addresses(1);
        Decoding.good("the last byte again and again", NOTHING, Rows.delta(last.bytes()), 1, 2, 2, 2, 2, 2);
        Window just = new Window(6).data(1, 2, 3).codes(4, 19, 3).addresses(0);
        Decoding.good("none of those that it appends", NOTHING, Rows.delta(just.bytes()), 1, 2, 3, 1, 2, 3);
        Window more = new Window(7).data(1, 2, 3).codes(4, 19, 4).addresses(0);
        Decoding.good("one of those that it appends", NOTHING, Rows.delta(more.bytes()), 1, 2, 3, 1, 2, 3, 1);
        Window segment = new Window(7).from(1, 3, 0).codes(19, 7).addresses(1);
        Decoding.good("from the segment on", Rows.of(4, 5, 6), Rows.delta(segment.bytes()), 5, 6, 5, 6, 5, 6, 5);
        int[] source = Rows.up(1, 48);
        int[] round = new int[400];
        for (int i = 0; i < 400; i++) {
            round[i] = 1 + i % 48;
        }
        Window most = new Window(400).from(1, 48, 0).codes(115, 131, 16).addresses(0);
        Decoding.good("400 of a segment of 48", source, Rows.delta(most.bytes()), round);
    }

    private static void fromTheOutput() {
        int[] copy = new Window(2).from(2, 2, 1).codes(19, 2).addresses(0).bytes();
        Decoding.good("of one earlier window", NOTHING, Rows.delta(add(7, 8, 9), copy), 7, 8, 9, 8, 9);
        Decoding.good("of two earlier windows", NOTHING, Rows.delta(add(7, 8), add(9), copy), 7, 8, 9, 8, 9);
        int[] last = new Window(1).from(2, 1, 199).codes(19, 1).addresses(0).bytes();
        Decoding.good("the last byte of them", NOTHING, Rows.delta(add(Rows.up(1, 200)), last), Rows.join(Rows.up(1, 200), Rows.of(200)));
        int[] all = new Window(200).from(2, 200, 0).codes(0, 129, 67, 19, 5).data(9).addresses(129, 67).bytes();
        Decoding.good("all bytes of them", NOTHING, Rows.delta(add(Rows.up(1, 200)), all),
                Rows.join(Rows.up(1, 200), Rows.same(9, 195), Rows.of(196, 197, 198, 199, 200)));
        int[] made = new Window(5).from(2, 2, 0).codes(19, 5).addresses(1).bytes();
        Decoding.good("and then into the window itself", NOTHING, Rows.delta(add(7, 8, 9), made), 7, 8, 9, 8, 8, 8, 8, 8);
        Decoding.ill("the first window has none, though there is an output", NOTHING, Rows.delta(copy));
        int[] source = new Window(2).from(1, 2, 1).codes(19, 2).addresses(0).bytes();
        Decoding.good("1 is the source", Rows.of(4, 5, 6), Rows.delta(add(7, 8, 9), source), 7, 8, 9, 5, 6);
    }
}
