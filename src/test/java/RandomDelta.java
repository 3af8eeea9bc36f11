import java.util.ArrayList;
import java.util.List;
import java.util.Random;

/** Makes deltas that use all kinds, modes and segments, and that now and then have a mistake. */
final class RandomDelta {
    private final Random random;
    private final int sourceSize;
    private final double mistakes;
    private final List<Integer> bytes = new ArrayList<>(List.of(214, 195, 196, 0, 0));
    private int made = 0;

    private final int[] near = new int[4];
    private final int[] same = new int[768];
    private int copies;
    private int here;
    private final List<Integer> data = new ArrayList<>();
    private final List<Integer> codes = new ArrayList<>();
    private final List<Integer> addresses = new ArrayList<>();

    RandomDelta(Random random, int sourceSize, double mistakes) {
        this.random = random;
        this.sourceSize = sourceSize;
        this.mistakes = mistakes;
    }

    int[] make(int windows, int sizeMost) {
        for (int k = 0; k < windows; k++) {
            window(sizeMost);
        }
        return bytes.stream().mapToInt(b -> b).toArray();
    }

    private boolean slip() {
        return random.nextDouble() < mistakes;
    }

    private int slipped(int n) {
        return slip() ? Math.max(0, n + random.nextInt(5) - 2) : n;
    }

    private void integer(List<Integer> to, int n) {
        int at = to.size();
        Model.write(to, n);
        int room = 5 - (to.size() - at);
        int more = random.nextInt(8) == 0 ? random.nextInt(room + 1) + (slip() ? 1 : 0) : 0;
        for (int k = 0; k < more; k++) {
            to.add(at, 128);
        }
    }

    private void window(int sizeMost) {
        java.util.Arrays.fill(near, 0);
        java.util.Arrays.fill(same, 0);
        copies = 0;
        data.clear();
        codes.clear();
        addresses.clear();
        int from = random.nextInt(3);
        int there = from == 0 ? 0 : from == 1 ? sourceSize : made;
        int place = random.nextInt(there + 1);
        int segment = from == 0 ? 0 : random.nextInt(there - place + 1);
        here = segment;
        int length = Math.min(400 - made, random.nextInt(sizeMost + 1));
        while (here - segment < length) {
            instruction(length - (here - segment));
        }
        bytes.add(slip() ? random.nextInt(6) : from);
        if (from != 0) {
            integer(bytes, slipped(segment));
            integer(bytes, slipped(place));
        }
        List<Integer> body = new ArrayList<>();
        integer(body, slipped(length));
        body.add(slip() ? 1 : 0);
        integer(body, slipped(data.size()));
        integer(body, slipped(codes.size()));
        integer(body, slipped(addresses.size()));
        body.addAll(data);
        body.addAll(codes);
        body.addAll(addresses);
        integer(bytes, slipped(body.size()));
        bytes.addAll(body);
        made += length;
    }

    private void instruction(int left) {
        int kind = random.nextInt(6);
        int mode = random.nextInt(9);
        if (kind == 4 && left >= 5) {
            int copy = mode <= 5 ? 4 + random.nextInt(Math.min(3, left - 4)) : 4;
            int add = 1 + random.nextInt(Math.min(4, left - copy));
            codes.add(mode <= 5 ? 163 + 12 * mode + 3 * (add - 1) + copy - 4 : 235 + 4 * (mode - 6) + add - 1);
            add(add);
            copy(copy, mode);
        } else if (kind == 5 && left >= 5 && here > 0) {
            codes.add(247 + mode);
            copy(4, mode);
            add(1);
        } else if (kind == 1) {
            int size = 1 + random.nextInt(left);
            codes.add(0);
            integer(codes, slipped(size));
            data.add(random.nextInt(256));
            here += size;
        } else if (kind == 0 || here == 0) {
            int size = 1 + random.nextInt(Math.min(left, 22));
            sized(size, 1, size <= 17 ? 1 + size : 1);
            add(size);
        } else {
            int size = 1 + random.nextInt(Math.min(left, 30));
            sized(size, 19 + 16 * mode, size >= 4 && size <= 18 ? 19 + 16 * mode + size - 3 : 19 + 16 * mode);
            copy(size, mode);
        }
    }

    /** The code with the size, if there is one, but now and then the one with size 0 all the same. */
    private void sized(int size, int any, int code) {
        if (code != any && random.nextInt(4) != 0) {
            codes.add(code);
        } else {
            codes.add(any);
            integer(codes, slipped(size));
        }
    }

    private void add(int size) {
        for (int k = 0; k < size; k++) {
            data.add(random.nextInt(256));
        }
        here += size;
    }

    private void copy(int size, int mode) {
        int a = random.nextInt(here);
        if (mode >= 6) {
            int b = copies > 0 && random.nextBoolean() ? near[random.nextInt(4)] % 256 : random.nextInt(256);
            addresses.add(b);
            a = same[256 * (mode - 6) + b];
        } else {
            int base = mode < 2 ? 0 : near[mode - 2];
            a = Math.max(a, Math.min(base, here - 1));
            integer(addresses, slipped(mode == 1 ? here - a : Math.max(0, a - base)));
        }
        near[copies % 4] = a;
        same[a % 768] = a;
        copies++;
        here += size;
    }
}
