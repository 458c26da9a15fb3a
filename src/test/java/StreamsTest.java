/** Promises 13 to 20, ordinary calls: open, next, nextPick, split, skip, keep, back, told. */
public final class StreamsTest {
    public static void main(String[] args) {
        opens();
        nexts();
        nextPicks();
        splits();
        splitsIntoPathsThatAre();
        skips();
        backs();
        Due.end();
    }

    private static NamedStreams withStream(long run, long... parts) {
        NamedStreams x = Due.withPath(42, parts);
        x.open(run, 0);
        return x;
    }

    private static void opens() {
        NamedStreams x = Due.withPath(1, 5);
        Due.addPath(x, 6);
        for (int i = 0; i < 8; i++) {
            Due.is("open " + i, x.open(i / 4, i % 2), i);
            Due.is("told(" + i + ", 0)", x.told(i, 0), i % 2);
            Due.is("told(" + i + ", 1)", x.told(i, 1), 0);
            Due.is("told(" + i + ", 2)", x.told(i, 2), 0);
        }
        for (int i = 0; i < 8; i++) {
            Due.is("next of " + i, x.next(i, 1000), x.span(i / 4, i % 2, 0, 1000));
        }
    }

    private static void nexts() {
        NamedStreams x = withStream(-9, 1, 2);
        x.open(-9, 0);
        long[] sizes = {1, 10, Long.MAX_VALUE, 6148914691236517206L, 1L << 62, 7};
        for (int place = 0; place < 60; place++) {
            long n = sizes[place % sizes.length];
            Due.is("next(0, " + n + ")", x.next(0, n), x.span(-9, 0, place, n));
            Due.is("place", x.told(0, 1), place + 1);
        }
        Due.is("place of the other", x.told(1, 1), 0);
        Due.is("next of the other", x.next(1, 1000000), x.span(-9, 0, 0, 1000000));
    }

    private static void nextPicks() {
        NamedStreams x = withStream(4, 1);
        x.weight(1, 5);
        x.weight(6, 9);
        x.weight(9, 2);
        for (int place = 0; place < 60; place++) {
            Due.is("nextPick(0)", x.nextPick(0), x.pick(4, 0, place));
            Due.is("place", x.told(0, 1), place + 1);
        }
        x.next(0, 5);
        Due.is("nextPick behind next", x.nextPick(0), x.pick(4, 0, 61));
    }

    private static void splits() {
        NamedStreams x = withStream(13, 50);
        x.next(0, 5);
        x.part(99);
        Due.is("split(0)", x.split(0), 1);
        Due.is("its path", x.told(1, 0), 1);
        Due.is("its place", x.told(1, 1), 0);
        Due.is("its splits", x.told(1, 2), 0);
        Due.is("splits of 0", x.told(0, 2), 1);
        Due.is("place of 0", x.told(0, 1), 1);
        Due.is("parts that were told", x.count(2), 1);
        Due.is("split(0)", x.split(0), 2);
        Due.is("splits of 0", x.told(0, 2), 2);
        Due.is("split(2)", x.split(2), 3);
        Due.is("split(3)", x.split(3), 4);
        NamedStreams y = Due.withPath(42, 50);
        Due.addPath(y, 50, 0);
        Due.addPath(y, 50, 1);
        Due.addPath(y, 50, 1, 0);
        Due.addPath(y, 50, 1, 0, 0);
        for (int path = 0; path < 5; path++) {
            Due.is("key(" + path + ")", x.key(path), y.key(path));
        }
        for (int stream = 1; stream < 5; stream++) {
            Due.is("next of " + stream, x.next(stream, 1L << 60), y.span(13, stream, 0, 1L << 60));
        }
        Due.is("path() of the part that was told", x.path(), 5);
        Due.addPath(y, 99);
        Due.is("its key", x.key(5), y.key(5));
    }

    private static void splitsIntoPathsThatAre() {
        NamedStreams x = Due.withPath(42, 50, 0);
        Due.addPath(x, 50);
        x.open(1, 1);
        x.open(2, 1);
        Due.is("split(0)", x.split(0), 2);
        Due.is("like rows are one path", x.told(2, 0), 0);
        Due.is("split(1)", x.split(1), 3);
        Due.is("each stream counts its own splits", x.told(3, 0), 0);
        Due.is("count(0)", x.count(0), 2);
        Due.is("run of 2", x.next(2, 1L << 60), x.span(1, 0, 0, 1L << 60));
        Due.is("run of 3", x.next(3, 1L << 60), x.span(2, 0, 0, 1L << 60));
    }

    private static void skips() {
        NamedStreams x = withStream(1, 1);
        Due.is("skip by 5", x.skip(0, 5), 5);
        Due.is("next behind skip", x.next(0, 1L << 60), x.span(1, 0, 5, 1L << 60));
        Due.is("skip behind next", x.skip(0, 1000000), 1000006);
        Due.is("next behind skip", x.next(0, 1L << 60), x.span(1, 0, 1000006, 1L << 60));
        Due.is("place", x.told(0, 1), 1000007);
    }

    private static void backs() {
        NamedStreams x = withStream(1, 1);
        x.open(2, 0);
        x.skip(1, 30);
        x.split(1);
        Due.is("keep(0, 1)", x.keep(0, 1), 30);
        Due.is("keep(1, 0)", x.keep(1, 0), 0);
        x.split(1);
        x.next(1, 5);
        x.next(0, 5);
        Due.is("splits", x.told(1, 2), 2);
        Due.is("back(0)", x.back(0), 1);
        Due.is("place", x.told(1, 1), 30);
        Due.is("splits", x.told(1, 2), 1);
        Due.is("place of the other", x.told(0, 1), 1);
        Due.is("streams stay", x.count(1), 4);
        Due.is("paths stay", x.count(0), 3);
        Due.is("split again", x.split(1), 4);
        Due.is("into the same path", x.told(4, 0), x.told(3, 0));
        x.skip(1, 9);
        Due.is("back(0) a second time", x.back(0), 1);
        Due.is("place", x.told(1, 1), 30);
        Due.is("splits", x.told(1, 2), 1);
        Due.is("back(1)", x.back(1), 0);
        Due.is("place", x.told(0, 1), 0);
        x.skip(1, 9);
        Due.is("keep(0, 0)", x.keep(0, 0), 0);
        Due.is("back(0) is of stream 0 now", x.back(0), 0);
        Due.is("place of 1 stays", x.told(1, 1), 39);
    }
}
