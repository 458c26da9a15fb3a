/** The edges that promises 13 to 22 name, a method for each sentence. NONE of a draw is in NoneTest. */
public final class StreamEdgesTest {
    private static final long MOST = Long.MAX_VALUE;
    private static final long LEAST = Long.MIN_VALUE;
    private static final int LAST = 2147483647;
    private static final long WIDE = 1L << 62;

    public static void main(String[] args) {
        openBadPath();
        openFull();
        openOfAnyRun();
        nextBadSize();
        nextBadStream();
        nextBadPlace();
        nextZero();
        nextPickBadStream();
        nextPickBadPlace();
        nextPickZero();
        nextPickGreat();
        splitBad();
        splitFullOfStreams();
        splitFullOfPaths();
        splitIntoALikePath();
        splitFullOfParts();
        skipBadSize();
        skipBadStream();
        skipBeyondTheLastPlace();
        keepPlace();
        keepBad();
        backAsItWas();
        backBad();
        backNone();
        toldBadStream();
        toldBadWhat();
        countedBits();
        countedSizes();
        countedNumbers();
        countedBeyondTheSources();
        countWhat();
        Due.end();
    }

    private static NamedStreams withStream() {
        NamedStreams x = Due.withPath(77, 5);
        x.open(6, 0);
        return x;
    }

    private static NamedStreams atPlace(int place) {
        NamedStreams x = withStream();
        Due.moveTo(x, 0, place);
        return x;
    }

    // ---- promise 13

    private static void openBadPath() {
        Due.sentence("BAD: PATH");
        NamedStreams x = Due.withPath(77, 5);
        for (int path : Due.wrongNumbers(1)) {
            Due.is("open(0, " + path + ")", x.open(0, path), -1);
        }
        Due.is("count(1)", x.count(1), 0);
        NamedStreams all = Due.withAllPaths();
        Due.is("open of path 24", all.open(0, 24), -1);
        Due.is("open of path 23", all.open(0, 23), 0);
    }

    private static void openFull() {
        Due.sentence("A STREAM: its number. BAD: PATH; FULL.");
        NamedStreams x = Due.withPath(77, 5);
        for (int i = 0; i < 8; i++) {
            Due.is("open " + i, x.open(0, 0), i);
        }
        Due.is("open 8", x.open(0, 0), -2);
        Due.is("open 8 again", x.open(5, 0), -2);
        Due.is("open 8 of no such path: BAD is named first", x.open(0, 1), -1);
        Due.is("count(1)", x.count(1), 8);
    }

    private static void openOfAnyRun() {
        Due.sentence("A STREAM: its number.");
        long[] runs = {0, -1, MOST, LEAST};
        NamedStreams x = Due.withPath(77, 5);
        for (int i = 0; i < runs.length; i++) {
            Due.is("open(" + runs[i] + ", 0)", x.open(runs[i], 0), i);
            Due.is("its next", x.next(i, WIDE), x.span(runs[i], 0, 0, WIDE));
        }
    }

    // ---- promise 14

    private static void nextBadSize() {
        Due.sentence("BAD: n");
        for (long n : new long[] {-1, -4, LEAST}) {
            NamedStreams x = withStream();
            Due.is("n = " + n, x.next(0, n), -1);
            Due.is("its place", x.told(0, 1), 0);
        }
        NamedStreams x = withStream();
        Due.is("n = 1", x.next(0, 1), 0);
        Due.is("n greatest", x.next(0, MOST), x.span(6, 0, 1, MOST));
        Due.is("its place", x.told(0, 1), 2);
    }

    private static void nextBadStream() {
        Due.sentence("BAD: n, STREAM");
        for (int stream : Due.wrongNumbers(1)) {
            Due.is("stream " + stream, withStream().next(stream, 5), -1);
            Due.is("stream " + stream + ", n = 0: BAD is named first", withStream().next(stream, 0), -1);
            Due.is("stream " + stream + ", n = -1", withStream().next(stream, -1), -1);
        }
    }

    private static void nextBadPlace() {
        Due.sentence("BAD: n, STREAM, its place is 2147483647");
        NamedStreams x = atPlace(LAST - 1);
        Due.is("next at 2147483646", x.next(0, WIDE), x.span(6, 0, LAST - 1, WIDE));
        Due.is("its place", x.told(0, 1), LAST);
        Due.is("next at 2147483647", x.next(0, WIDE), -1);
        Due.is("next at 2147483647 of 1", x.next(0, 1), -1);
        Due.is("next at 2147483647 of 0: BAD is named first", x.next(0, 0), -1);
        Due.is("its place", x.told(0, 1), LAST);
        x.open(6, 0);
        Due.is("another goes on", x.next(1, WIDE), x.span(6, 0, 0, WIDE));
    }

    private static void nextZero() {
        Due.sentence("ZERO");
        NamedStreams x = atPlace(LAST - 1);
        Due.is("n = 0 at 2147483646", x.next(0, 0), -4);
        Due.is("its place", x.told(0, 1), LAST - 1);
        NamedStreams y = withStream();
        Due.is("n = 0", y.next(0, 0), -4);
        Due.is("its place", y.told(0, 1), 0);
        Due.is("the next one", y.next(0, WIDE), y.span(6, 0, 0, WIDE));
    }

    // ---- promise 15

    private static void nextPickBadStream() {
        Due.sentence("BAD: STREAM");
        for (int stream : Due.wrongNumbers(1)) {
            NamedStreams x = withStream();
            Due.is("stream " + stream + ", ZERO, too", x.nextPick(stream), -1);
            x.weight(3, MOST);
            Due.is("stream " + stream, x.nextPick(stream), -1);
            x.weight(4, MOST);
            Due.is("stream " + stream + ", GREAT, too", x.nextPick(stream), -1);
        }
    }

    private static void nextPickBadPlace() {
        Due.sentence("BAD: STREAM, its place");
        NamedStreams x = atPlace(LAST - 1);
        x.weight(3, 1);
        Due.is("nextPick at 2147483646", x.nextPick(0), 3);
        Due.is("its place", x.told(0, 1), LAST);
        Due.is("nextPick at 2147483647", x.nextPick(0), -1);
        Due.is("its place", x.told(0, 1), LAST);
        x.weight(4, MOST);
        Due.is("nextPick at 2147483647, GREAT, too", x.nextPick(0), -1);
        x.weight(3, 0);
        x.weight(4, 0);
        Due.is("nextPick at 2147483647, ZERO, too", x.nextPick(0), -1);
    }

    private static void nextPickZero() {
        Due.sentence("ZERO");
        NamedStreams x = withStream();
        Due.is("nextPick of weights of 0", x.nextPick(0), -4);
        Due.is("its place", x.told(0, 1), 0);
        x.weight(0, 1);
        Due.is("nextPick", x.nextPick(0), 0);
        Due.is("its place", x.told(0, 1), 1);
    }

    private static void nextPickGreat() {
        Due.sentence("GREAT");
        NamedStreams x = withStream();
        x.weight(0, MOST);
        x.weight(9, 1);
        Due.is("nextPick of 2^63", x.nextPick(0), -5);
        Due.is("its place", x.told(0, 1), 0);
        x.weight(9, 0);
        Due.is("nextPick of 2^63 - 1", x.nextPick(0), 0);
        Due.is("its place", x.told(0, 1), 1);
    }

    // ---- promise 16

    private static void splitBad() {
        Due.sentence("A STREAM is SPLIT: the number of the new one. BAD");
        for (int stream : Due.wrongNumbers(1)) {
            NamedStreams x = withStream();
            Due.is("split(" + stream + ")", x.split(stream), -1);
            Due.is("count(0)", x.count(0), 1);
            Due.is("count(1)", x.count(1), 1);
        }
        NamedStreams full = withStream();
        for (int i = 1; i < 8; i++) {
            full.open(0, 0);
        }
        Due.is("split(8), 8 are there: BAD is named first", full.split(8), -1);
        Due.is("split at the last place", atPlace(LAST).split(0), 1);
    }

    private static void splitFullOfStreams() {
        Due.sentence("FULL: STREAMS");
        NamedStreams x = withStream();
        for (int i = 1; i < 7; i++) {
            x.open(0, 0);
        }
        Due.is("split, 7 are there", x.split(0), 7);
        Due.is("split, 8 are there", x.split(0), -2);
        Due.is("split of the last", x.split(7), -2);
        Due.is("its splits", x.told(0, 2), 1);
        Due.is("count(0)", x.count(0), 2);
        Due.is("count(1)", x.count(1), 8);
    }

    private static void splitFullOfPaths() {
        Due.sentence("FULL: STREAMS, PATHS");
        NamedStreams x = withStream();
        for (int i = 1; i < 23; i++) {
            Due.addPath(x, 100, i);
        }
        Due.is("split, 23 paths are there", x.split(0), 1);
        Due.is("its path", x.told(1, 0), 23);
        Due.is("split, 24 paths are there", x.split(0), -2);
        Due.is("its splits", x.told(0, 2), 1);
        Due.is("count(0)", x.count(0), 24);
        Due.is("count(1)", x.count(1), 2);
    }

    private static void splitIntoALikePath() {
        Due.sentence("like rows are one PATH");
        NamedStreams x = withStream();
        Due.addPath(x, 5, 0);
        for (int i = 2; i < 24; i++) {
            Due.addPath(x, 100, i);
        }
        Due.is("split into a path that is there, with all 24", x.split(0), 1);
        Due.is("its path", x.told(1, 0), 1);
        Due.is("split into a new one", x.split(0), -2);
    }

    private static void splitFullOfParts() {
        Due.sentence("its PATH has 4 PARTS");
        NamedStreams x = Due.withPath(77, 1, 2, 3);
        x.open(0, 0);
        Due.is("split of 3 parts", x.split(0), 1);
        Due.is("split of 4 parts", x.split(1), -2);
        Due.is("its splits", x.told(1, 2), 0);
        Due.is("count(0)", x.count(0), 2);
        Due.is("count(1)", x.count(1), 2);
        Due.is("split of 3 parts again", x.split(0), 2);
    }

    // ---- promise 17

    private static void skipBadSize() {
        Due.sentence("A STREAM's place is put on by n (0 to 1000000000): which it is. BAD");
        NamedStreams x = withStream();
        for (int n : new int[] {-1, Integer.MIN_VALUE, 1000000001, Integer.MAX_VALUE}) {
            Due.is("skip by " + n, x.skip(0, n), -1);
        }
        Due.is("its place", x.told(0, 1), 0);
        Due.is("skip by 0", x.skip(0, 0), 0);
        Due.is("skip by 1000000000", x.skip(0, 1000000000), 1000000000);
        Due.is("skip by -1 behind it", x.skip(0, -1), -1);
        Due.is("its place", x.told(0, 1), 1000000000);
    }

    private static void skipBadStream() {
        Due.sentence("A STREAM's place is put on by n");
        for (int stream : Due.wrongNumbers(1)) {
            Due.is("skip(" + stream + ", 1)", withStream().skip(stream, 1), -1);
            Due.is("skip(" + stream + ", 0)", withStream().skip(stream, 0), -1);
        }
    }

    private static void skipBeyondTheLastPlace() {
        Due.sentence("BAD: also above 2147483647.");
        NamedStreams x = atPlace(2000000000);
        Due.is("skip by 1000000000", x.skip(0, 1000000000), -1);
        Due.is("skip by 147483648", x.skip(0, 147483648), -1);
        Due.is("its place", x.told(0, 1), 2000000000);
        Due.is("skip by 147483647", x.skip(0, 147483647), LAST);
        Due.is("skip by 1", x.skip(0, 1), -1);
        Due.is("skip by 1000000000", x.skip(0, 1000000000), -1);
        Due.is("skip by 0", x.skip(0, 0), LAST);
        Due.is("its place", x.told(0, 1), LAST);
    }

    // ---- promise 18

    private static void keepPlace() {
        Due.sentence("A STREAM is KEPT as k: its place.");
        Due.is("keep at 0", withStream().keep(0, 0), 0);
        Due.is("keep at the last place", atPlace(LAST).keep(3, 0), LAST);
        NamedStreams x = withStream();
        for (int i = 1; i < 8; i++) {
            x.open(0, 0);
            x.skip(i, i);
        }
        Due.is("keep of stream 7", x.keep(3, 7), 7);
        Due.is("keep of stream 6 in its stead", x.keep(3, 6), 6);
        Due.is("back", x.back(3), 6);
    }

    private static void keepBad() {
        Due.sentence("A STREAM is KEPT as k: its place. BAD.");
        NamedStreams x = atPlace(9);
        x.keep(0, 0);
        x.skip(0, 1);
        for (int k : new int[] {-1, 4, Integer.MIN_VALUE, Integer.MAX_VALUE}) {
            Due.is("keep(" + k + ", 0)", x.keep(k, 0), -1);
        }
        for (int stream : Due.wrongNumbers(1)) {
            Due.is("keep(0, " + stream + ")", x.keep(0, stream), -1);
            Due.is("keep(1, " + stream + ")", x.keep(1, stream), -1);
        }
        Due.is("back(1): none is", x.back(1), -3);
        Due.is("back(0)", x.back(0), 0);
        Due.is("its place", x.told(0, 1), 9);
    }

    // ---- promise 19

    private static void backAsItWas() {
        Due.sentence("The STREAM that is KEPT as k is as it was then (place, SPLITS): its number.");
        NamedStreams x = atPlace(LAST - 1);
        x.keep(0, 0);
        x.next(0, WIDE);
        x.split(0);
        Due.is("next at the last place", x.next(0, WIDE), -1);
        Due.is("back(0)", x.back(0), 0);
        Due.is("its place", x.told(0, 1), LAST - 1);
        Due.is("its splits", x.told(0, 2), 0);
        Due.is("next again", x.next(0, WIDE), x.span(6, 0, LAST - 1, WIDE));
        Due.is("split again", x.split(0), 2);
        Due.is("into the same path", x.told(2, 0), x.told(1, 0));
        Due.is("count(0)", x.count(0), 2);
        x.keep(1, 0);
        x.back(0);
        Due.is("back(1), forward", x.back(1), 0);
        Due.is("its place", x.told(0, 1), LAST);
        Due.is("its splits", x.told(0, 2), 1);
        Due.is("back(0) as often as asked", x.back(0), 0);
        Due.is("its place", x.told(0, 1), LAST - 1);
    }

    private static void backBad() {
        Due.sentence("its number. BAD");
        NamedStreams x = withStream();
        for (int k : new int[] {-1, 4, 5, Integer.MIN_VALUE, Integer.MAX_VALUE}) {
            Due.is("back(" + k + "), none is kept", x.back(k), -1);
        }
        for (int k = 0; k < 4; k++) {
            x.keep(k, 0);
        }
        for (int k : new int[] {-1, 4, 5, Integer.MIN_VALUE, Integer.MAX_VALUE}) {
            Due.is("back(" + k + "), all are kept", x.back(k), -1);
        }
    }

    private static void backNone() {
        Due.sentence("NONE: none is.");
        for (int kept = 0; kept < 4; kept++) {
            NamedStreams x = withStream();
            x.keep(kept, 0);
            for (int k = 0; k < 4; k++) {
                Due.is("back(" + k + "), " + kept + " is kept", x.back(k), k == kept ? 0 : -3);
            }
        }
    }

    // ---- promise 20

    private static void toldBadStream() {
        Due.sentence("Of a STREAM");
        for (int stream : Due.wrongNumbers(1)) {
            for (int what = -1; what < 4; what++) {
                Due.is("told(" + stream + ", " + what + ")", withStream().told(stream, what), -1);
            }
        }
    }

    private static void toldBadWhat() {
        Due.sentence("what = 0 its PATH, 1 its place, 2 how often it was SPLIT. BAD.");
        NamedStreams x = atPlace(LAST);
        x.split(0);
        Due.is("told(0, 0)", x.told(0, 0), 0);
        Due.is("told(0, 1)", x.told(0, 1), LAST);
        Due.is("told(0, 2)", x.told(0, 2), 1);
        for (int what : new int[] {-1, 3, 4, Integer.MIN_VALUE, Integer.MAX_VALUE}) {
            Due.is("told(0, " + what + ")", x.told(0, what), -1);
        }
    }

    // ---- promise 21

    private static void countedBits() {
        Due.sentence("How many sources of b bits (1 to 16)");
        NamedStreams x = new NamedStreams(0);
        Due.is("b = 1", x.counted(1, 1, 0), 2);
        Due.is("b = 16", x.counted(16, 1, 0), 65536);
        for (int b : new int[] {0, -1, 17, 31, 32, 33, 64, 65, Integer.MIN_VALUE, Integer.MAX_VALUE}) {
            Due.is("b = " + b, x.counted(b, 1, 0), -1);
        }
    }

    private static void countedSizes() {
        Due.sentence("a SPAN of n (1 to 65536; 2 to the b in place of 2^64)");
        NamedStreams x = new NamedStreams(0);
        Due.is("n = 1", x.counted(4, 1, 0), 16);
        Due.is("n = 65536", x.counted(16, 65536, 65535), 1);
        Due.is("n = 65535", x.counted(16, 65535, 65534), 1);
        Due.is("n = 32768", x.counted(16, 32768, 0), 2);
        Due.is("n = 32769: 32767 sources are beyond", x.counted(16, 32769, 0), 1);
        for (int n : new int[] {0, -1, 65537, Integer.MIN_VALUE, Integer.MAX_VALUE}) {
            Due.is("n = " + n, x.counted(16, n, 0), -1);
            Due.is("n = " + n + ", i = n - 1", x.counted(16, n, n - 1), -1);
        }
    }

    private static void countedNumbers() {
        Due.sentence("BAD: also i not below n.");
        NamedStreams x = new NamedStreams(0);
        for (int n : new int[] {1, 2, 7, 65536}) {
            Due.is("i = 0 of " + n, x.counted(16, n, 0), 65536 / n);
            Due.is("i = n - 1 of " + n, x.counted(16, n, n - 1), 65536 / n);
            for (int i : new int[] {-1, n, n + 1, Integer.MIN_VALUE, Integer.MAX_VALUE}) {
                Due.is("i = " + i + " of " + n, x.counted(16, n, i), -1);
            }
        }
    }

    private static void countedBeyondTheSources() {
        Due.sentence("if they are taken as WORDS are by a SPAN of n");
        NamedStreams x = new NamedStreams(0);
        for (int b = 1; b <= 16; b++) {
            int all = 1 << b;
            Due.is("n is all of " + b + " bits", x.counted(b, all, all - 1), 1);
            Due.is("n is 1 less", x.counted(b, all - 1, 0), b == 1 ? 2 : 1);
            // no multiple but 0 is small enough, so no source is taken
            Due.is("n is 1 more", x.counted(b, all + 1, 0), b == 16 ? -1 : 0);
        }
        Due.is("1 bit, n greatest", x.counted(1, 65536, 0), 0);
    }

    // ---- promise 22

    private static void countWhat() {
        Due.sentence("0 PATHS, 1 STREAMS, 2 PARTS that were told. BAD.");
        NamedStreams x = Due.withAllPaths();
        for (int i = 0; i < 8; i++) {
            x.open(0, 0);
        }
        for (int i = 0; i < 4; i++) {
            x.part(i);
        }
        Due.is("count(0)", x.count(0), 24);
        Due.is("count(1)", x.count(1), 8);
        Due.is("count(2)", x.count(2), 4);
        for (int what : new int[] {-1, 3, 4, Integer.MIN_VALUE, Integer.MAX_VALUE}) {
            Due.is("count(" + what + ")", x.count(what), -1);
        }
    }
}
