/**
 * Draws that hang on a seed, the number of a run, the path of a place and counters alone.
 * No draw reads anything that another draw has written, so none can change another.
 */
public final class NamedStreams {
    public static final int BAD = -1, FULL = -2, NONE = -3, ZERO = -4, GREAT = -5;

    private static final long GOLDEN = 0x9E3779B97F4A7C15L;
    private static final int MOST_PARTS = 4;
    private static final int MOST_PATHS = 24;
    private static final int MOST_STREAMS = 8;
    private static final int MOST_KEPT = 4;
    private static final int MOST_WEIGHTS = 10;
    private static final int MOST_PERMUTED = 40;
    private static final int MOST_SKIPPED = 1000000000;
    private static final int MOST_SOURCE_BITS = 16;
    private static final int MOST_COUNTED = 65536;
    private static final int LAST_PLACE = 2147483647;
    private static final int WORDS_OF_PLACE = 32;
    private static final int BITS_OF_WORD = 64;

    private final long seed;
    private final long[] toldParts = new long[MOST_PARTS];
    private int toldCount = 0;
    private final Paths paths = new Paths();
    private final long[] weights = new long[MOST_WEIGHTS];
    private final int[] order = new int[MOST_PERMUTED];
    private final Stream[] streams = new Stream[MOST_STREAMS];
    private int streamCount = 0;
    private final Kept[] kept = new Kept[MOST_KEPT];
    private int latestTries = 0;
    private int latestStatus = 0;

    public NamedStreams(long seed) {
        this.seed = seed;
    }

    // ---- paths

    public int part(long part) {
        if (toldCount >= MOST_PARTS) {
            return FULL;
        }
        toldParts[toldCount] = part;
        toldCount++;
        return toldCount;
    }

    public int path() {
        if (toldCount == 0) {
            return BAD;
        }
        int number = paths.enter(toldParts, toldCount);
        if (number != FULL) {
            toldCount = 0;
        }
        return number;
    }

    public long key(int path) {
        if (!paths.has(path)) {
            latestStatus = BAD;
            return 0;
        }
        latestStatus = 0;
        return paths.keys[path];
    }

    // ---- draws at a place

    public long word(long run, int path, long counter) {
        if (!paths.has(path)) {
            latestStatus = BAD;
            return 0;
        }
        latestStatus = 0;
        return wordAt(baseOf(run, path), counter);
    }

    public long span(long run, int path, int c, long n) {
        // the document names ZERO ahead of BAD here, and nowhere else
        if (n == 0) {
            return ZERO;
        }
        if (!paths.has(path) || c < 0 || n < 0) {
            return BAD;
        }
        return drawSpan(run, path, c, n);
    }

    public int fraction(long run, int path, int c, long a, long b) {
        if (!paths.has(path) || c < 0 || b < 0 || a < 0 || a > b) {
            return BAD;
        }
        if (b == 0) {
            return ZERO;
        }
        return drawFraction(run, path, c, a, b);
    }

    public int weight(int k, long w) {
        if (k < 0 || k >= MOST_WEIGHTS || w < 0) {
            return BAD;
        }
        weights[k] = w;
        return 1;
    }

    public int pick(long run, int path, int c) {
        if (!paths.has(path) || c < 0) {
            return BAD;
        }
        return drawPick(run, path, c);
    }

    public int permuted(long run, int path, int c, int n, int k) {
        if (!paths.has(path) || c < 0 || n < 0 || n > MOST_PERMUTED || k < 0 || k >= n) {
            return BAD;
        }
        // c + n itself could go round
        if (c > LAST_PLACE - n) {
            return BAD;
        }
        return drawPermutation(run, path, c, n) ? order[k] : NONE;
    }

    public int tries() {
        return latestTries;
    }

    public int status() {
        return latestStatus;
    }

    // ---- streams

    public int open(long run, int path) {
        if (!paths.has(path)) {
            return BAD;
        }
        if (streamCount >= MOST_STREAMS) {
            return FULL;
        }
        return addStream(run, path);
    }

    public long next(int stream, long n) {
        Stream drawer = streamAt(stream);
        if (n < 0 || drawer == null || drawer.place == LAST_PLACE) {
            return BAD;
        }
        if (n == 0) {
            return ZERO;
        }
        long drawn = drawSpan(drawer.run, drawer.path, drawer.place, n);
        drawer.place++;
        return drawn;
    }

    public int nextPick(int stream) {
        Stream drawer = streamAt(stream);
        if (drawer == null || drawer.place == LAST_PLACE) {
            return BAD;
        }
        int picked = drawPick(drawer.run, drawer.path, drawer.place);
        // NONE is a draw that came to nothing; ZERO and GREAT are refusals
        if (picked != ZERO && picked != GREAT) {
            drawer.place++;
        }
        return picked;
    }

    public int split(int stream) {
        Stream parent = streamAt(stream);
        if (parent == null) {
            return BAD;
        }
        // looked at first: a path must not be entered for a stream that is refused
        if (streamCount >= MOST_STREAMS) {
            return FULL;
        }
        int path = paths.enterChild(parent.path, parent.splits);
        if (path == FULL) {
            return FULL;
        }
        parent.splits++;
        return addStream(parent.run, path);
    }

    public int skip(int stream, int n) {
        Stream skipper = streamAt(stream);
        if (skipper == null || n < 0 || n > MOST_SKIPPED || skipper.place > LAST_PLACE - n) {
            return BAD;
        }
        skipper.place += n;
        return skipper.place;
    }

    public int keep(int k, int stream) {
        Stream source = streamAt(stream);
        if (k < 0 || k >= MOST_KEPT || source == null) {
            return BAD;
        }
        Kept slot = kept[k];
        if (slot == null) {
            slot = new Kept();
            kept[k] = slot;
        }
        slot.stream = stream;
        slot.place = source.place;
        slot.splits = source.splits;
        return source.place;
    }

    public int back(int k) {
        if (k < 0 || k >= MOST_KEPT) {
            return BAD;
        }
        Kept slot = kept[k];
        if (slot == null) {
            return NONE;
        }
        Stream target = streamAt(slot.stream);
        if (target == null) {
            return NONE;
        }
        target.place = slot.place;
        target.splits = slot.splits;
        return slot.stream;
    }

    public int told(int stream, int what) {
        Stream asked = streamAt(stream);
        if (asked == null) {
            return BAD;
        }
        switch (what) {
            case 0:
                return asked.path;
            case 1:
                return asked.place;
            case 2:
                return asked.splits;
            default:
                return BAD;
        }
    }

    public int counted(int b, int n, int i) {
        if (b < 1 || b > MOST_SOURCE_BITS || n < 1 || n > MOST_COUNTED || i < 0 || i >= n) {
            return BAD;
        }
        // below the greatest multiple of n each i comes once for each n
        return (1 << b) / n;
    }

    public int count(int what) {
        switch (what) {
            case 0:
                return paths.size;
            case 1:
                return streamCount;
            case 2:
                return toldCount;
            default:
                return BAD;
        }
    }

    // ---- what the calls share; the arguments have been looked at by then

    private static long mix(long bits) {
        long z = bits;
        z = (z ^ (z >>> 30)) * 0xBF58476D1CE4E5B9L;
        z = (z ^ (z >>> 27)) * 0x94D049BB133111EBL;
        return z ^ (z >>> 31);
    }

    /** What all words of a run and a path have in common. */
    private long baseOf(long run, int path) {
        return mix((seed + GOLDEN * (run + 1)) ^ paths.keys[path]);
    }

    private static long wordAt(long base, long counter) {
        return mix(base + GOLDEN * (counter + 1));
    }

    private static long firstCounter(int c) {
        return (long) WORDS_OF_PLACE * c;
    }

    private static boolean belowUnsigned(long x, long y) {
        // turning the highest bit makes the order with sign the one without
        return (x ^ (1L << 63)) < (y ^ (1L << 63));
    }

    /** x modulo n, x without sign, n above 0. */
    private static long remainderUnsigned(long x, long n) {
        // half of x has no sign bit; doubling its quotient falls short by 1 at most
        long quotient = ((x >>> 1) / n) << 1;
        long rest = x - quotient * n;
        return belowUnsigned(rest, n) ? rest : rest - n;
    }

    private long drawSpan(long run, int path, int c, long n) {
        long base = baseOf(run, path);
        long first = firstCounter(c);
        // -n is 2^64 - n, which leaves what 2^64 leaves
        long excess = remainderUnsigned(-n, n);
        for (int i = 0; i < WORDS_OF_PLACE; i++) {
            long word = wordAt(base, first + i);
            latestTries = i + 1;
            // without excess the bound is 2^64 itself, which no long holds
            if (excess == 0 || belowUnsigned(word, -excess)) {
                return remainderUnsigned(word, n);
            }
        }
        return NONE;
    }

    private int drawFraction(long run, int path, int c, long a, long b) {
        latestTries = 0;
        if (a == b) {
            return 1;
        }
        if (a == 0) {
            return 0;
        }
        long base = baseOf(run, path);
        long first = firstCounter(c);
        long rest = a;
        for (int i = 0; i < WORDS_OF_PLACE; i++) {
            long word = wordAt(base, first + i);
            for (int place = BITS_OF_WORD - 1; place >= 0; place--) {
                // 2 * rest against b, said so that nothing goes round
                boolean digit = rest >= b - rest;
                rest = digit ? rest - (b - rest) : rest + rest;
                boolean bit = ((word >>> place) & 1L) == 1L;
                latestTries++;
                if (bit != digit) {
                    return bit ? 0 : 1;
                }
                if (rest == 0) {
                    return 0;
                }
            }
        }
        return NONE;
    }

    /** The sum of the weights, or GREAT, which no sum is. */
    private long sumOfWeights() {
        long sum = 0;
        for (int k = 0; k < MOST_WEIGHTS; k++) {
            sum += weights[k];
            if (sum < 0) {
                return GREAT;
            }
        }
        return sum;
    }

    private int drawPick(long run, int path, int c) {
        long sum = sumOfWeights();
        if (sum == 0) {
            return ZERO;
        }
        if (sum < 0) {
            return GREAT;
        }
        long drawn = drawSpan(run, path, c, sum);
        return drawn < 0 ? NONE : weightReaching(drawn);
    }

    /** The first k for which the weights 0 to k come to more than drawn, which is below their sum. */
    private int weightReaching(long drawn) {
        long left = drawn;
        int k = 0;
        while (k < MOST_WEIGHTS - 1 && left >= weights[k]) {
            left -= weights[k];
            k++;
        }
        return k;
    }

    /** Leaves the permutation in order; false: one of its spans is none. */
    private boolean drawPermutation(long run, int path, int c, int n) {
        for (int i = 0; i < n; i++) {
            order[i] = i;
        }
        for (int i = n - 1; i >= 1; i--) {
            long drawn = drawSpan(run, path, c + i, i + 1);
            if (drawn < 0) {
                return false;
            }
            int other = (int) drawn;
            int moved = order[i];
            order[i] = order[other];
            order[other] = moved;
        }
        return true;
    }

    /** The stream of that number, or null. */
    private Stream streamAt(int stream) {
        return stream < 0 || stream >= streamCount ? null : streams[stream];
    }

    private int addStream(long run, int path) {
        int number = streamCount;
        streams[number] = new Stream(run, path);
        streamCount++;
        return number;
    }

    /** A stream's run and path stay; its place and the number of its splits move. */
    private static final class Stream {
        final long run;
        final int path;
        int place = 0;
        int splits = 0;

        Stream(long run, int path) {
            this.run = run;
            this.path = path;
        }
    }

    /** What of a stream moves, as it was when it was kept. */
    private static final class Kept {
        int stream = 0;
        int place = 0;
        int splits = 0;
    }

    /** The paths by their numbers, their rows one behind the other. */
    private static final class Paths {
        final long[] rows = new long[MOST_PATHS * MOST_PARTS];
        final int[] lengths = new int[MOST_PATHS];
        final long[] keys = new long[MOST_PATHS];
        final long[] child = new long[MOST_PARTS];
        int size = 0;

        boolean has(int number) {
            return number >= 0 && number < size;
        }

        /** The number of the path with this row, a new one if there is no like row; or FULL. */
        int enter(long[] row, int length) {
            for (int number = 0; number < size; number++) {
                if (isLike(number, row, length)) {
                    return number;
                }
            }
            return size >= MOST_PATHS ? FULL : add(row, length);
        }

        /** The number of the path that has one part more than the parent; or FULL. */
        int enterChild(int parent, long lastPart) {
            int length = lengths[parent];
            if (length >= MOST_PARTS) {
                return FULL;
            }
            for (int i = 0; i < length; i++) {
                child[i] = rows[parent * MOST_PARTS + i];
            }
            child[length] = lastPart;
            return enter(child, length + 1);
        }

        private boolean isLike(int number, long[] row, int length) {
            if (lengths[number] != length) {
                return false;
            }
            for (int i = 0; i < length; i++) {
                if (rows[number * MOST_PARTS + i] != row[i]) {
                    return false;
                }
            }
            return true;
        }

        private int add(long[] row, int length) {
            int number = size;
            long key = 0;
            for (int i = 0; i < length; i++) {
                rows[number * MOST_PARTS + i] = row[i];
                key = mix((key + GOLDEN) ^ row[i]);
            }
            lengths[number] = length;
            keys[number] = key;
            size++;
            return number;
        }
    }
}
