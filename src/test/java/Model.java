import java.util.ArrayList;
import java.util.Arrays;
import java.util.List;

/**
 * The document's words once more, as plainly and as slowly as can be, with the library's lists and
 * with exceptions, and by other ways than DeltaWindows goes: the codes are a table that is searched,
 * a copy is tried by making it, and a window is taken apart before it is made.
 */
final class Model {
    private static final int[] MOST = {48, 64, 1000, 400};
    private static final int ADD = 1;
    private static final int RUN = 2;
    private static final int COPY = 3;

    private static final class Refusal extends RuntimeException {
        private static final long serialVersionUID = 1;
        final int answer;

        Refusal(int answer) {
            this.answer = answer;
        }
    }

    private static final class Memory {
        int[] near = new int[4];
        int[] same = new int[768];
        int next = 0;

        void remember(int a) {
            near[next] = a;
            next = next == 3 ? 0 : next + 1;
            same[a % 768] = a;
        }
    }

    private final List<List<Integer>> rows = new ArrayList<>();
    private final int[][] table = new int[256][];
    private final Memory[] sides = {new Memory(), new Memory()};
    private int windows = 0;

    Model() {
        for (int row = 0; row < 4; row++) {
            rows.add(new ArrayList<>());
        }
        table[0] = new int[] {RUN, 0, 0, 0, 0, 0};
        table[1] = new int[] {ADD, 0, 0, 0, 0, 0};
        for (int size = 1; size <= 17; size++) {
            table[1 + size] = new int[] {ADD, size, 0, 0, 0, 0};
        }
        for (int m = 0; m <= 8; m++) {
            table[19 + 16 * m] = new int[] {COPY, 0, m, 0, 0, 0};
            for (int j = 1; j <= 15; j++) {
                table[19 + 16 * m + j] = new int[] {COPY, 3 + j, m, 0, 0, 0};
            }
            for (int i = 1; i <= 4; i++) {
                for (int j = 4; m <= 5 && j <= 6; j++) {
                    table[163 + 12 * m + 3 * (i - 1) + (j - 4)] = new int[] {ADD, i, 0, COPY, j, m};
                }
                if (m >= 6) {
                    table[235 + 4 * (m - 6) + (i - 1)] = new int[] {ADD, i, 0, COPY, 4, m};
                }
            }
            table[247 + m] = new int[] {COPY, 4, m, ADD, 1, 0};
        }
    }

    boolean put(int row, int b, int n) {
        if (row < 0 || row > 2 || b < 0 || b > 255 || n < 1 || n > 16 || rows.get(row).size() + n > MOST[row]) {
            return false;
        }
        for (int k = 0; k < n; k++) {
            rows.get(row).add(b);
        }
        return true;
    }

    boolean cut(int row, int n) {
        if (row < 0 || row > 2 || n < 0 || n > rows.get(row).size()) {
            return false;
        }
        rows.set(row, new ArrayList<>(rows.get(row).subList(0, n)));
        return true;
    }

    boolean set(int row, int i, int b) {
        if (row < 0 || row > 2 || i < 0 || i >= rows.get(row).size() || b < 0 || b > 255) {
            return false;
        }
        rows.get(row).set(i, b);
        return true;
    }

    int length(int row) {
        return row < 0 || row > 3 ? -1 : rows.get(row).size();
    }

    int byteAt(int row, int i) {
        return row < 0 || row > 3 || i < 0 || i >= rows.get(row).size() ? -1 : rows.get(row).get(i);
    }

    int code(int k, int part) {
        return k < 0 || k > 255 || part < 0 || part > 5 ? -1 : table[k][part];
    }

    int cache(int side, int i) {
        if (side < 0 || side > 1 || i < 0 || i > 771) {
            return -1;
        }
        return i < 4 ? sides[side].near[i] : sides[side].same[i - 4];
    }

    int windows() {
        return windows;
    }

    boolean agrees() {
        return rows.get(1).equals(rows.get(3));
    }

    // encode

    int encode(int w) {
        if (w < 1 || w > 64) {
            return -1;
        }
        List<Integer> delta = new ArrayList<>(List.of(214, 195, 196, 0, 0));
        sides[0] = new Memory();
        List<Integer> target = rows.get(1);
        for (int from = 0; from < target.size(); from += w) {
            delta.addAll(window(target.subList(from, Math.min(target.size(), from + w))));
        }
        rows.set(2, delta);
        return delta.size();
    }

    private List<Integer> window(List<Integer> piece) {
        Memory memory = new Memory();
        sides[0] = memory;
        List<Integer> string = new ArrayList<>(rows.get(0));
        List<Integer> data = new ArrayList<>();
        List<Integer> addresses = new ArrayList<>();
        List<int[]> instructions = new ArrayList<>();
        int done = 0;
        while (done < piece.size()) {
            List<Integer> rest = piece.subList(done, piece.size());
            int run = 0;
            while (run < rest.size() && rest.get(run).equals(rest.get(0))) {
                run++;
            }
            int best = 0;
            int where = -1;
            for (int a = string.size() - 1; a >= 0; a--) {
                int n = copied(string, a, rest);
                if (n > 0 && n >= best) {
                    best = n;
                    where = a;
                }
            }
            int size = 1;
            if (run >= 4 && run >= best) {
                size = run;
                data.add(rest.get(0));
                instructions.add(new int[] {RUN, run, 0});
            } else if (best >= 4) {
                size = best;
                instructions.add(new int[] {COPY, best, address(where, string.size(), memory, addresses)});
            } else {
                data.add(rest.get(0));
                int[] last = instructions.isEmpty() ? new int[3] : instructions.get(instructions.size() - 1);
                if (last[0] == ADD) {
                    last[1]++;
                } else {
                    instructions.add(new int[] {ADD, 1, 0});
                }
            }
            string.addAll(rest.subList(0, size));
            done += size;
        }
        return bytes(piece.size(), data, codes(instructions), addresses);
    }

    /** How many bytes of the rest a COPY from a makes rightly. */
    private static int copied(List<Integer> string, int a, List<Integer> rest) {
        List<Integer> grown = new ArrayList<>(string);
        int n = 0;
        while (n < rest.size()) {
            grown.add(grown.get(a + n));
            if (!grown.get(grown.size() - 1).equals(rest.get(n))) {
                break;
            }
            n++;
        }
        return n;
    }

    private static int address(int a, int here, Memory memory, List<Integer> addresses) {
        int mode;
        if (memory.same[a % 768] == a) {
            mode = 6 + (a % 768) / 256;
            addresses.add(a % 256);
        } else {
            int[] integers = {a, here - a, a - memory.near[0], a - memory.near[1], a - memory.near[2], a - memory.near[3]};
            int least = Arrays.stream(integers).filter(i -> i >= 0).min().getAsInt();
            mode = 0;
            while (integers[mode] != least) {
                mode++;
            }
            write(addresses, least);
        }
        memory.remember(a);
        return mode;
    }

    private List<Integer> codes(List<int[]> instructions) {
        List<Integer> codes = new ArrayList<>();
        int k = 0;
        while (k < instructions.size()) {
            int[] one = instructions.get(k);
            int[] two = k + 1 < instructions.size() ? instructions.get(k + 1) : new int[] {-1, -1, -1};
            int pair = search(one[0], one[1], one[2], two[0], two[1], two[2]);
            int alone = search(one[0], one[1], one[2], 0, 0, 0);
            if (pair >= 0) {
                codes.add(pair);
                k += 2;
                continue;
            }
            if (alone >= 0) {
                codes.add(alone);
            } else {
                codes.add(search(one[0], 0, one[2], 0, 0, 0));
                write(codes, one[1]);
            }
            k++;
        }
        return codes;
    }

    private int search(int... parts) {
        for (int k = 0; k < 256; k++) {
            if (Arrays.equals(table[k], parts)) {
                return k;
            }
        }
        return -1;
    }

    private List<Integer> bytes(int length, List<Integer> data, List<Integer> codes, List<Integer> addresses) {
        List<Integer> body = new ArrayList<>();
        write(body, length);
        body.add(0);
        write(body, data.size());
        write(body, codes.size());
        write(body, addresses.size());
        body.addAll(data);
        body.addAll(codes);
        body.addAll(addresses);
        List<Integer> all = new ArrayList<>();
        int segment = rows.get(0).size();
        all.add(segment == 0 ? 0 : 1);
        if (segment > 0) {
            write(all, segment);
            write(all, 0);
        }
        write(all, body.size());
        all.addAll(body);
        return all;
    }

    static void write(List<Integer> bytes, int integer) {
        int at = bytes.size();
        bytes.add(integer % 128);
        for (int rest = integer / 128; rest > 0; rest /= 128) {
            bytes.add(at, 128 + rest % 128);
        }
    }

    // decode

    /** Bytes that are taken from the front. */
    private static final class Bytes {
        final List<Integer> bytes;
        int taken = 0;

        Bytes(List<Integer> bytes) {
            this.bytes = bytes;
        }

        int left() {
            return bytes.size() - taken;
        }

        int one() {
            if (left() == 0) {
                throw new Refusal(-2);
            }
            return bytes.get(taken++);
        }

        long integer() {
            List<Integer> digits = new ArrayList<>();
            int b = one();
            while (b >= 128) {
                digits.add(b - 128);
                b = one();
            }
            digits.add(b);
            if (digits.size() > 5) {
                throw new Refusal(-2);
            }
            long value = 0;
            for (int digit : digits) {
                value = 128 * value + digit;
            }
            if (value > 2147483647L) {
                throw new Refusal(-2);
            }
            return value;
        }

        Bytes part(long n) {
            if (n > left()) {
                throw new Refusal(-2);
            }
            Bytes part = new Bytes(bytes.subList(taken, taken + (int) n));
            taken += (int) n;
            return part;
        }
    }

    private static void must(boolean holds) {
        if (!holds) {
            throw new Refusal(-2);
        }
    }

    int decode(int bound) {
        if (bound < 0 || bound > 400) {
            return -1;
        }
        try {
            Bytes delta = new Bytes(rows.get(2));
            for (int b : new int[] {214, 195, 196, 0, 0}) {
                must(delta.one() == b);
            }
            List<Integer> output = new ArrayList<>();
            Memory memory = new Memory();
            int count = 0;
            while (delta.left() > 0) {
                memory = new Memory();
                output.addAll(readWindow(delta, output, memory, bound));
                count++;
            }
            rows.set(3, output);
            sides[1] = memory;
            windows = count;
            return output.size();
        } catch (Refusal refusal) {
            return refusal.answer;
        }
    }

    private List<Integer> readWindow(Bytes delta, List<Integer> output, Memory memory, int bound) {
        int from = delta.one();
        must(from <= 2);
        List<Integer> string = new ArrayList<>();
        if (from > 0) {
            List<Integer> there = from == 1 ? rows.get(0) : output;
            long size = delta.integer();
            long place = delta.integer();
            must(place + size <= there.size());
            string.addAll(there.subList((int) place, (int) (place + size)));
        }
        long following = delta.integer();
        int begun = delta.taken;
        long length = delta.integer();
        if (output.size() + length > bound) {
            throw new Refusal(-3);
        }
        must(delta.one() == 0);
        long dataSize = delta.integer();
        long codesSize = delta.integer();
        long addressesSize = delta.integer();
        must(following == delta.taken - begun + dataSize + codesSize + addressesSize);
        Bytes data = delta.part(dataSize);
        Bytes codes = delta.part(codesSize);
        Bytes addresses = delta.part(addressesSize);
        int segment = string.size();
        while (codes.left() > 0) {
            int[] parts = table[codes.one()];
            for (int p = 0; p <= 3 && parts[p] != 0; p += 3) {
                long size = parts[p + 1] == 0 ? codes.integer() : parts[p + 1];
                must(size > 0 && string.size() - segment + size <= length);
                make(string, parts[p], (int) size, parts[p + 2], data, addresses, memory);
            }
        }
        must(data.left() == 0 && addresses.left() == 0 && string.size() - segment == length);
        return string.subList(segment, string.size());
    }

    private static void make(List<Integer> string, int kind, int size, int mode, Bytes data, Bytes addresses, Memory memory) {
        if (kind == ADD) {
            string.addAll(data.part(size).bytes);
            return;
        }
        if (kind == RUN) {
            int b = data.one();
            for (int k = 0; k < size; k++) {
                string.add(b);
            }
            return;
        }
        long a;
        if (mode >= 6) {
            a = memory.same[256 * (mode - 6) + addresses.one()];
        } else if (mode == 0) {
            a = addresses.integer();
        } else if (mode == 1) {
            a = string.size() - addresses.integer();
        } else {
            a = memory.near[mode - 2] + addresses.integer();
        }
        must(a >= 0 && a < string.size());
        for (int k = 0; k < size; k++) {
            string.add(string.get((int) a + k));
        }
        memory.remember((int) a);
    }
}
