import java.math.BigInteger;
import java.util.ArrayList;
import java.util.Arrays;
import java.util.Collections;
import java.util.List;
import java.util.SplittableRandom;

/**
 * The document once more, slowly: big integers in place of unsigned longs, lists in place of rows,
 * and the library's SplittableRandom, which mixes as MIX does, in place of MIX.
 */
final class Model {
    static final long G = 0x9E3779B97F4A7C15L;
    private static final BigInteger TWO_64 = BigInteger.ONE.shiftLeft(64);

    /** A stream: run, path, place, splits. */
    private static final class Line {
        long run;
        int path;
        long place;
        int splits;
    }

    private final long seed;
    private List<Long> told = new ArrayList<>();
    private final List<List<Long>> paths = new ArrayList<>();
    private final List<Line> lines = new ArrayList<>();
    private final long[][] kept = new long[4][];
    private final long[] weights = new long[10];
    private int tries = 0;
    private int status = 0;

    Model(long seed) {
        this.seed = seed;
    }

    static long mix(long z) {
        // its first number is MIX of its seed + G
        return new SplittableRandom(z - G).nextLong();
    }

    static long keyOf(List<Long> parts) {
        long key = 0;
        for (long part : parts) {
            key = mix((key + G) ^ part);
        }
        return key;
    }

    static long wordOf(long seed, long run, long key, long counter) {
        return mix(mix((seed + G * (run + 1)) ^ key) + G * (counter + 1));
    }

    static BigInteger unsigned(long x) {
        BigInteger big = BigInteger.valueOf(x);
        return big.signum() < 0 ? big.add(TWO_64) : big;
    }

    /** {the answer, the tries}. */
    static long[] spanOf(long seed, long run, long key, long c, long n) {
        BigInteger big = BigInteger.valueOf(n);
        BigInteger bound = TWO_64.divide(big).multiply(big);
        for (int i = 0; i < 32; i++) {
            BigInteger word = unsigned(wordOf(seed, run, key, 32 * c + i));
            if (word.compareTo(bound) < 0) {
                return new long[] {word.mod(big).longValueExact(), i + 1};
            }
        }
        return new long[] {-3, 32};
    }

    /** {the answer, the tries}. */
    static long[] fractionOf(long seed, long run, long key, long c, long a, long b) {
        if (a == b) {
            return new long[] {1, 0};
        }
        if (a == 0) {
            return new long[] {0, 0};
        }
        BigInteger big = BigInteger.valueOf(b);
        BigInteger r = BigInteger.valueOf(a);
        for (int i = 0; i < 2048; i++) {
            boolean bit = unsigned(wordOf(seed, run, key, 32 * c + i / 64)).testBit(63 - i % 64);
            r = r.shiftLeft(1);
            boolean digit = r.compareTo(big) >= 0;
            if (digit) {
                r = r.subtract(big);
            }
            if (bit != digit) {
                return new long[] {bit ? 0 : 1, i + 1};
            }
            if (r.signum() == 0) {
                return new long[] {0, i + 1};
            }
        }
        return new long[] {-3, 2048};
    }

    int part(long part) {
        if (told.size() == 4) {
            return -2;
        }
        told.add(part);
        return told.size();
    }

    int path() {
        if (told.isEmpty()) {
            return -1;
        }
        int number = enter(told);
        if (number >= 0) {
            told = new ArrayList<>();
        }
        return number;
    }

    private int enter(List<Long> parts) {
        if (!paths.contains(parts)) {
            if (paths.size() == 24) {
                return -2;
            }
            paths.add(new ArrayList<>(parts));
        }
        return paths.indexOf(parts);
    }

    private boolean isPath(int path) {
        return path >= 0 && path < paths.size();
    }

    private boolean isStream(int stream) {
        return stream >= 0 && stream < lines.size();
    }

    private long keyAt(int path) {
        return keyOf(paths.get(path));
    }

    long key(int path) {
        status = isPath(path) ? 0 : -1;
        return isPath(path) ? keyAt(path) : 0;
    }

    long word(long run, int path, long counter) {
        status = isPath(path) ? 0 : -1;
        return isPath(path) ? wordOf(seed, run, keyAt(path), counter) : 0;
    }

    private long draw(long[] answerAndTries) {
        tries = (int) answerAndTries[1];
        return answerAndTries[0];
    }

    long span(long run, int path, int c, long n) {
        if (n == 0) {
            return -4;
        }
        if (!isPath(path) || c < 0 || n < 0) {
            return -1;
        }
        return draw(spanOf(seed, run, keyAt(path), c, n));
    }

    int fraction(long run, int path, int c, long a, long b) {
        if (!isPath(path) || c < 0 || b < 0 || a < 0 || a > b) {
            return -1;
        }
        if (b == 0) {
            return -4;
        }
        return (int) draw(fractionOf(seed, run, keyAt(path), c, a, b));
    }

    int weight(int k, long w) {
        if (k < 0 || k > 9 || w < 0) {
            return -1;
        }
        weights[k] = w;
        return 1;
    }

    int pick(long run, int path, int c) {
        if (!isPath(path) || c < 0) {
            return -1;
        }
        BigInteger sum = sumTo(9);
        if (sum.signum() == 0) {
            return -4;
        }
        if (sum.bitLength() > 63) {
            return -5;
        }
        long drawn = draw(spanOf(seed, run, keyAt(path), c, sum.longValueExact()));
        if (drawn == -3) {
            return -3;
        }
        int k = 0;
        while (sumTo(k).compareTo(BigInteger.valueOf(drawn)) <= 0) {
            k++;
        }
        return k;
    }

    private BigInteger sumTo(int k) {
        return Arrays.stream(weights, 0, k + 1).mapToObj(BigInteger::valueOf)
            .reduce(BigInteger.ZERO, BigInteger::add);
    }

    int permuted(long run, int path, int c, int n, int k) {
        if (!isPath(path) || c < 0 || n < 0 || n > 40 || (long) c + n > 2147483647L || k < 0 || k >= n) {
            return -1;
        }
        List<Integer> row = new ArrayList<>();
        for (int i = 0; i < n; i++) {
            row.add(i);
        }
        for (int i = n - 1; i >= 1; i--) {
            long j = draw(spanOf(seed, run, keyAt(path), (long) c + i, i + 1L));
            if (j == -3) {
                return -3;
            }
            Collections.swap(row, i, (int) j);
        }
        return row.get(k);
    }

    int tries() {
        return tries;
    }

    int status() {
        return status;
    }

    int open(long run, int path) {
        if (!isPath(path)) {
            return -1;
        }
        return lines.size() == 8 ? -2 : addLine(run, path);
    }

    private int addLine(long run, int path) {
        Line line = new Line();
        line.run = run;
        line.path = path;
        lines.add(line);
        return lines.size() - 1;
    }

    long next(int stream, long n) {
        if (!isStream(stream) || n < 0 || lines.get(stream).place == 2147483647L) {
            return -1;
        }
        if (n == 0) {
            return -4;
        }
        Line line = lines.get(stream);
        return span(line.run, line.path, (int) line.place++, n);
    }

    int nextPick(int stream) {
        if (!isStream(stream) || lines.get(stream).place == 2147483647L) {
            return -1;
        }
        Line line = lines.get(stream);
        int picked = pick(line.run, line.path, (int) line.place);
        if (picked >= 0 || picked == -3) {
            line.place++;
        }
        return picked;
    }

    int split(int stream) {
        if (!isStream(stream)) {
            return -1;
        }
        Line line = lines.get(stream);
        List<Long> parts = new ArrayList<>(paths.get(line.path));
        if (lines.size() == 8 || parts.size() == 4) {
            return -2;
        }
        parts.add((long) line.splits);
        int path = enter(parts);
        if (path < 0) {
            return path;
        }
        line.splits++;
        return addLine(line.run, path);
    }

    int skip(int stream, int n) {
        if (!isStream(stream) || n < 0 || n > 1000000000 || lines.get(stream).place + n > 2147483647L) {
            return -1;
        }
        lines.get(stream).place += n;
        return (int) lines.get(stream).place;
    }

    int keep(int k, int stream) {
        if (k < 0 || k > 3 || !isStream(stream)) {
            return -1;
        }
        Line line = lines.get(stream);
        kept[k] = new long[] {stream, line.place, line.splits};
        return (int) line.place;
    }

    int back(int k) {
        if (k < 0 || k > 3) {
            return -1;
        }
        if (kept[k] == null) {
            return -3;
        }
        Line line = lines.get((int) kept[k][0]);
        line.place = kept[k][1];
        line.splits = (int) kept[k][2];
        return (int) kept[k][0];
    }

    int told(int stream, int what) {
        if (!isStream(stream) || what < 0 || what > 2) {
            return -1;
        }
        Line line = lines.get(stream);
        return what == 0 ? line.path : what == 1 ? (int) line.place : line.splits;
    }

    int counted(int b, int n, int i) {
        if (b < 1 || b > 16 || n < 1 || n > 65536 || i < 0 || i >= n) {
            return -1;
        }
        int all = 1 << b;
        int bound = 0;
        while (bound + n <= all) {
            bound += n;
        }
        int found = 0;
        for (int source = 0; source < bound; source++) {
            found += source % n == i ? 1 : 0;
        }
        return found;
    }

    int count(int what) {
        switch (what) {
            case 0:
                return paths.size();
            case 1:
                return lines.size();
            case 2:
                return told.size();
            default:
                return -1;
        }
    }
}
