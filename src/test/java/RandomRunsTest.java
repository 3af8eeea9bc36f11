import java.util.Random;

/** Long runs of calls, the same ones each time, with each answer held against the model's. */
public final class RandomRunsTest {
    private static final int RUNS = 3000;
    private static int decoded = 0;
    private static int illFormed = 0;
    private static int tooLong = 0;

    public static void main(String[] args) {
        for (int seed = 0; seed < RUNS && !Check.failed(); seed++) {
            encodeRun(new Random(seed), new Pair("encode run " + seed));
            decodeRun(new Random(seed), new Pair("decode run " + seed));
            anyRun(new Random(seed), new Pair("any run " + seed));
        }
        System.out.println(decoded + " decoded, " + illFormed + " ill formed, " + tooLong + " too long");
        Check.due("runs that say little", decoded > RUNS && illFormed > RUNS && tooLong > RUNS / 10, true);
        Check.end();
    }

    private static void decode(Pair pair, int bound) {
        int answer = pair.decode(bound);
        if (answer >= 0) {
            decoded++;
        } else if (answer == DeltaWindows.ILLFORMED) {
            illFormed++;
        } else if (answer == DeltaWindows.TOOLONG) {
            tooLong++;
        }
    }

    private static void encodeRun(Random random, Pair pair) {
        int letters = 1 + random.nextInt(random.nextBoolean() ? 4 : 200);
        fillSource(random, pair, letters);
        fillTarget(random, pair, letters);
        for (int k = 0; k < 4; k++) {
            int n = pair.encode(1 + random.nextInt(64));
            if (n < pair.left() - 150) {
                pair.compareRow(Rows.DELTA);
            }
            decode(pair, 64);
            pair.agrees();
            pair.windows();
            caches(random, pair);
            pair.set(Rows.TARGET, random.nextInt(64), random.nextInt(letters));
            for (int m = 0; m < 5; m++) {
                pair.set(Rows.DELTA, 5 + random.nextInt(Math.max(1, n - 5)), random.nextInt(random.nextBoolean() ? 8 : 256));
                decode(pair, random.nextInt(100));
            }
        }
    }

    private static void fillSource(Random random, Pair pair, int letters) {
        int most = random.nextInt(49);
        for (int k = 0; k < most && pair.model.length(Rows.SOURCE) < most; k++) {
            pair.put(Rows.SOURCE, random.nextInt(letters), 1 + (random.nextInt(4) == 0 ? random.nextInt(8) : 0));
        }
    }

    /** Parts of source and target themselves, and new bytes between them. */
    private static void fillTarget(Random random, Pair pair, int letters) {
        int most = random.nextInt(65);
        for (int k = 0; k < 20 && pair.model.length(Rows.TARGET) < most; k++) {
            int row = random.nextInt(2);
            int there = pair.model.length(row);
            if (there > 0 && random.nextInt(3) != 0) {
                int from = random.nextInt(there);
                int to = from + 1 + random.nextInt(Math.min(there - from, 12));
                for (int i = from; i < to; i++) {
                    pair.put(Rows.TARGET, pair.model.byteAt(row, i), 1);
                }
            } else {
                pair.put(Rows.TARGET, random.nextInt(letters), 1 + (random.nextInt(3) == 0 ? random.nextInt(6) : 0));
            }
        }
    }

    private static void caches(Random random, Pair pair) {
        for (int i = 0; i < 4; i++) {
            pair.cache(0, i);
            pair.cache(1, i);
        }
        for (int k = 0; k < 4; k++) {
            int side = random.nextInt(2);
            int address = pair.cache(side, random.nextInt(4));
            pair.cache(side, 4 + Math.max(0, address));
            pair.cache(side, 4 + random.nextInt(130));
            pair.cache(side, random.nextInt(772));
        }
    }

    private static void decodeRun(Random random, Pair pair) {
        int sourceSize = random.nextInt(49);
        for (int i = 0; i < sourceSize; i++) {
            pair.put(Rows.SOURCE, random.nextInt(256), 1);
        }
        double mistakes = random.nextInt(3) == 0 ? 0 : random.nextDouble() * 0.02;
        int sizeMost = random.nextInt(4) == 0 ? 400 : 40;
        for (int k = 0; k < 4; k++) {
            int[] delta = new RandomDelta(random, sourceSize, mistakes).make(random.nextInt(4), sizeMost);
            pair.cut(Rows.DELTA, 0);
            pair.putAll(Rows.DELTA, delta);
            decode(pair, 400);
            pair.windows();
            int made = pair.length(Rows.OUTPUT);
            for (int m = 0; m < 12 && made > 0; m++) {
                pair.byteAt(Rows.OUTPUT, made - 1 - random.nextInt(made));
            }
            caches(random, pair);
            decode(pair, Math.max(0, made - random.nextInt(2)));
            pair.set(Rows.DELTA, random.nextInt(delta.length), random.nextInt(random.nextBoolean() ? 4 : 256));
            decode(pair, random.nextInt(401));
            pair.cut(Rows.DELTA, random.nextInt(delta.length + 1));
            decode(pair, 400);
        }
    }

    /** Any calls with any arguments, right ones and wrong ones. */
    private static void anyRun(Random random, Pair pair) {
        while (pair.left() > 0) {
            int row = random.nextInt(16) == 0 ? any(random) : random.nextInt(4);
            switch (random.nextInt(14)) {
                case 0, 1, 2, 3 -> pair.put(row, near(random, 255), near(random, 16));
                case 4 -> pair.cut(row, near(random, Math.max(0, pair.model.length(row))));
                case 5 -> pair.set(row, near(random, Math.max(0, pair.model.length(row))), near(random, 255));
                case 6 -> pair.encode(near(random, 64));
                case 7 -> decode(pair, near(random, 400));
                case 8 -> pair.length(row);
                case 9 -> pair.byteAt(row, near(random, Math.max(0, pair.model.length(row))));
                case 10 -> pair.code(near(random, 255), near(random, 5));
                case 11 -> pair.cache(random.nextInt(8) == 0 ? any(random) : random.nextInt(2), near(random, 771));
                case 12 -> pair.windows();
                default -> pair.agrees();
            }
        }
    }

    /** Mostly 0 to most, now and then one of its edges or a number far outside. */
    private static int near(Random random, int most) {
        int[] edges = {-1, 0, 1, most - 1, most, most + 1, any(random)};
        return random.nextInt(5) == 0 ? edges[random.nextInt(edges.length)] : random.nextInt(most + 1);
    }

    private static int any(Random random) {
        int[] some = {Integer.MIN_VALUE, -2, -1, 4, 5, Integer.MAX_VALUE, random.nextInt()};
        return some[random.nextInt(some.length)];
    }
}
