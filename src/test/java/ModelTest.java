import java.util.Random;

/** All promises: runs of up to 512 calls, each answer against the one of the model, with odd arguments among them. */
public final class ModelTest {
    private static final long[] ODD = {0, 1, -1, 2, -4, 31, 32, 1L << 32, 1L << 61, 1L << 62, (1L << 62) + 1,
        6148914691236517205L, 6148914691236517206L, Long.MAX_VALUE - 1, Long.MAX_VALUE, Long.MIN_VALUE};
    private static final int[] PLACES = {0, 1, -1, 7, 67108864, 2147483606, 2147483607, 2147483608, 2147483646,
        2147483647, -2147483648};

    /** An object's answers are free behind 512 calls; the last ones compare all. */
    private static final int CALLS = 420;

    private final Random random;
    private final NamedStreams x;
    private final Model model;
    private int calls = 0;

    private ModelTest(long number) {
        random = new Random(number);
        long seed = someLong();
        x = new NamedStreams(seed);
        model = new Model(seed);
    }

    public static void main(String[] args) {
        int withAllPaths = 0;
        int withAllStreams = 0;
        for (int run = 0; run < 4000 && Due.wrongSoFar() == 0; run++) {
            ModelTest test = new ModelTest(run);
            while (test.calls < CALLS) {
                test.call("run " + run + " call " + test.calls + ": ", test.someKind(run));
            }
            test.compareAll("run " + run + " at its end: ");
            withAllPaths += test.model.count(0) == 24 ? 1 : 0;
            withAllStreams += test.model.count(1) == 8 ? 1 : 0;
        }
        Due.holds("many runs come to all paths: " + withAllPaths, withAllPaths > 500);
        Due.holds("many runs come to all streams: " + withAllStreams, withAllStreams > 500);
        Due.end();
    }

    private int someKind(int run) {
        // half of the calls of each third run are part() and path(), so that all paths come to be there
        return run % 3 == 0 && random.nextBoolean() ? random.nextInt(2) : random.nextInt(19);
    }

    private long someLong() {
        switch (random.nextInt(4)) {
            case 0:
                return ODD[random.nextInt(ODD.length)];
            case 1:
                return random.nextLong();
            case 2:
                return random.nextLong() >>> 1 + random.nextInt(62);
            default:
                return random.nextInt(6);
        }
    }

    private int somePlace() {
        return random.nextInt(4) == 0 ? PLACES[random.nextInt(PLACES.length)] : random.nextInt(1000);
    }

    private int about(int count) {
        switch (random.nextInt(12)) {
            case 0:
                return -1;
            case 1:
                return count;
            default:
                return random.nextInt(count + 1);
        }
    }

    private void call(String at, int kind) {
        if (kind < 9) {
            drawCall(at, kind);
        } else {
            streamCall(at, kind);
        }
        calls++;
        if (random.nextInt(4) == 0) {
            Due.is(at + "tries() behind kind " + kind, x.tries(), model.tries());
            Due.is(at + "status() behind kind " + kind, x.status(), model.status());
            calls += 2;
        }
    }

    private void drawCall(String at, int kind) {
        long run = random.nextInt(3) == 0 ? someLong() : random.nextInt(3);
        int path = about(model.count(0));
        int c = somePlace();
        long n = someLong();
        switch (kind) {
            case 0:
                long part = random.nextInt(3) == 0 ? someLong() : random.nextInt(3);
                Due.is(at + "part(" + part + ")", x.part(part), model.part(part));
                break;
            case 1:
                Due.is(at + "path()", x.path(), model.path());
                break;
            case 2:
                Due.is(at + "key(" + path + ")", x.key(path), model.key(path));
                break;
            case 3:
                Due.is(at + "word(" + run + ", " + path + ", " + n + ")", x.word(run, path, n), model.word(run, path, n));
                break;
            case 4:
                Due.is(at + "span(" + run + ", " + path + ", " + c + ", " + n + ")", x.span(run, path, c, n),
                    model.span(run, path, c, n));
                break;
            case 5:
                long a = random.nextBoolean() && n > 0 ? Math.floorMod(random.nextLong(), n) : someLong();
                Due.is(at + "fraction(" + run + ", " + path + ", " + c + ", " + a + ", " + n + ")",
                    x.fraction(run, path, c, a, n), model.fraction(run, path, c, a, n));
                break;
            case 6:
                int k = about(10);
                long w = random.nextInt(6) == 0 ? someLong() : random.nextInt(9);
                Due.is(at + "weight(" + k + ", " + w + ")", x.weight(k, w), model.weight(k, w));
                break;
            case 7:
                Due.is(at + "pick(" + run + ", " + path + ", " + c + ")", x.pick(run, path, c), model.pick(run, path, c));
                break;
            default:
                int size = random.nextInt(8) == 0 ? about(41) : about(6);
                int i = about(size < 0 ? 3 : size);
                Due.is(at + "permuted(" + run + ", " + path + ", " + c + ", " + size + ", " + i + ")",
                    x.permuted(run, path, c, size, i), model.permuted(run, path, c, size, i));
        }
    }

    private void streamCall(String at, int kind) {
        int stream = about(model.count(1));
        int k = about(4);
        switch (kind) {
            case 9:
                if (random.nextInt(2) == 0) {
                    long run = someLong();
                    int path = about(model.count(0));
                    Due.is(at + "open(" + run + ", " + path + ")", x.open(run, path), model.open(run, path));
                }
                break;
            case 10:
            case 11:
                long n = someLong();
                Due.is(at + "next(" + stream + ", " + n + ")", x.next(stream, n), model.next(stream, n));
                break;
            case 12:
                Due.is(at + "nextPick(" + stream + ")", x.nextPick(stream), model.nextPick(stream));
                break;
            case 13:
                if (random.nextInt(2) == 0) {
                    Due.is(at + "split(" + stream + ")", x.split(stream), model.split(stream));
                }
                break;
            case 14:
                int by = random.nextInt(8) == 0 ? random.nextInt() >> random.nextInt(4) : random.nextInt(9);
                Due.is(at + "skip(" + stream + ", " + by + ")", x.skip(stream, by), model.skip(stream, by));
                break;
            case 15:
                Due.is(at + "keep(" + k + ", " + stream + ")", x.keep(k, stream), model.keep(k, stream));
                break;
            case 16:
                Due.is(at + "back(" + k + ")", x.back(k), model.back(k));
                break;
            case 17:
                int what = about(3);
                Due.is(at + "told(" + stream + ", " + what + ")", x.told(stream, what), model.told(stream, what));
                break;
            default:
                int b = 1 + about(6);
                int size = about(70);
                int i = about(size < 0 ? 3 : size);
                Due.is(at + "counted(" + b + ", " + size + ", " + i + ")", x.counted(b, size, i), model.counted(b, size, i));
        }
    }

    private void compareAll(String at) {
        for (int what = -1; what < 4; what++) {
            Due.is(at + "count(" + what + ")", x.count(what), model.count(what));
        }
        for (int path = -1; path < 26; path++) {
            Due.is(at + "key(" + path + ")", x.key(path), model.key(path));
        }
        for (int stream = -1; stream < 10; stream++) {
            for (int what = -1; what < 4; what++) {
                Due.is(at + "told(" + stream + ", " + what + ")", x.told(stream, what), model.told(stream, what));
            }
        }
    }
}
