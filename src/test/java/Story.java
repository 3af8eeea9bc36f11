import java.util.ArrayList;
import java.util.List;

/**
 * Calls on a new object, each with the answer that is due. A story can be told again on another new
 * object, so that more can be asked at its end than the 512 calls of one object allow.
 */
final class Story {
    static final int CALLS_MOST = 512;
    private static final int FALSE = 0;
    private static final int TRUE = 1;

    private final String name;
    private final List<Call> calls = new ArrayList<>();
    private final List<Integer> answers = new ArrayList<>();

    Story(String name) {
        this.name = name;
    }

    /** The same calls, to be gone on with without a change to this story. */
    Story again() {
        return again(name);
    }

    Story again(String newName) {
        Story copy = new Story(newName);
        copy.calls.addAll(calls);
        copy.answers.addAll(answers);
        return copy;
    }

    Story then(Call call, int answer) {
        calls.add(call);
        answers.add(answer);
        return this;
    }

    Story then(Call call, boolean answer) {
        return then(call, answer ? TRUE : FALSE);
    }

    /** Puts the bytes behind what the row has, equal ones that stand side by side in one call. */
    Story put(int row, int... bytes) {
        int i = 0;
        while (i < bytes.length) {
            int n = 1;
            while (n < 16 && i + n < bytes.length && bytes[i + n] == bytes[i]) {
                n++;
            }
            then(Call.put(row, bytes[i], n), true);
            i += n;
        }
        return this;
    }

    /** The row becomes these bytes. */
    Story fill(int row, int... bytes) {
        return then(Call.cut(row, 0), true).put(row, bytes);
    }

    int left() {
        return CALLS_MOST - calls.size();
    }

    private DeltaWindows tell() {
        DeltaWindows x = new DeltaWindows();
        for (int k = 0; k < calls.size(); k++) {
            look(calls.get(k), calls.get(k).on(x), answers.get(k));
        }
        return x;
    }

    private void look(Call call, int got, int want) {
        Check.due(name + ": ", call.name, got, want);
    }

    /** Asks this at the end of the story. */
    Story due(Call call, int answer) {
        look(call, call.on(tell()), answer);
        Check.due(name + ": calls that are left", left() >= 1, true);
        return this;
    }

    Story due(Call call, boolean answer) {
        return due(call, answer ? TRUE : FALSE);
    }

    /** The row is these bytes and no more. */
    Story row(int row, int... bytes) {
        List<Call> questions = new ArrayList<>();
        questions.add(Call.length(row));
        for (int i = 0; i <= bytes.length; i++) {
            questions.add(Call.byteAt(row, i));
        }
        int[] due = Rows.join(Rows.of(bytes.length), bytes, Rows.of(DeltaWindows.BAD));
        return compare(questions, ask(questions), due);
    }

    /** All places of a side: NEAR, and then pairs of a place in SAME and what is there; the rest is 0. */
    Story caches(int side, int[] near, int... same) {
        int[] due = new int[772];
        System.arraycopy(near, 0, due, 0, 4);
        for (int k = 0; k < same.length; k += 2) {
            due[4 + same[k]] = same[k + 1];
        }
        List<Call> questions = new ArrayList<>();
        for (int i = 0; i < 772; i++) {
            questions.add(Call.cache(side, i));
        }
        return compare(questions, ask(questions), due);
    }

    private Story compare(List<Call> questions, int[] got, int[] due) {
        for (int k = 0; k < due.length; k++) {
            look(questions.get(k), got[k], due[k]);
        }
        return this;
    }

    private int[] ask(List<Call> questions) {
        int[] got = new int[questions.size()];
        DeltaWindows x = null;
        int left = 0;
        for (int k = 0; k < got.length; k++) {
            if (left == 0) {
                x = tell();
                left = Math.max(1, left());
            }
            got[k] = questions.get(k).on(x);
            left--;
        }
        Check.due(name + ": calls that are left", left() >= 1, true);
        return got;
    }

    /** All that can be asked of the state at the story's end. */
    private List<Call> questions() {
        List<Call> all = new ArrayList<>();
        all.add(Call.windows());
        all.add(Call.agrees());
        DeltaWindows x = tell();
        for (int row = 0; row < 4; row++) {
            all.add(Call.length(row));
            int n = x.length(row);
            for (int i = 0; i <= n; i++) {
                all.add(Call.byteAt(row, i));
            }
        }
        for (int i = 0; i < 772; i++) {
            all.add(Call.cache(0, i));
            all.add(Call.cache(1, i));
        }
        return all;
    }

    /**
     * The call answers this at the end of the story, and length, byteAt, cache, windows and agrees
     * answer the same before it and after it; so do the calls that change something, with it and without.
     */
    Story refuses(Call call, int answer) {
        List<Call> all = questions();
        int together = (left() - 1) / 2;
        Check.due(name + ": calls that are left", together >= 1, true);
        for (int from = 0; from < all.size() && together >= 1; from += together) {
            List<Call> some = all.subList(from, Math.min(from + together, all.size()));
            DeltaWindows x = tell();
            int[] before = some.stream().mapToInt(question -> question.on(x)).toArray();
            look(call, call.on(x), answer);
            for (int k = 0; k < before.length; k++) {
                Check.due(name + ": behind ", call.name + ", " + some.get(k).name, some.get(k).on(x), before[k]);
            }
        }
        goesOnTheSame(call, answer);
        return this;
    }

    Story refuses(Call call) {
        return refuses(call, FALSE);
    }

    private void goesOnTheSame(Call call, int answer) {
        Call[] later = {
            Call.decode(400), Call.windows(), Call.put(0, 9, 1), Call.put(1, 8, 1), Call.put(2, 7, 1),
            Call.decode(399), Call.encode(5), Call.cache(0, 0), Call.decode(400), Call.cache(1, 0), Call.agrees(),
        };
        if (left() <= later.length) {
            return;
        }
        DeltaWindows with = tell();
        look(call, call.on(with), answer);
        DeltaWindows without = tell();
        for (Call one : later) {
            Check.due(name + ": some calls behind ", call.name + ", " + one.name, one.on(with), one.on(without));
        }
    }
}
