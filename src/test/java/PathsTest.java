import java.util.List;

/** Promises 1 to 4, 12 and 22: a new object, part, path, key, status, count. */
public final class PathsTest {
    public static void main(String[] args) {
        newObject();
        parts();
        paths();
        fullPaths();
        keys();
        statusHangsOnKeyAndWordAlone();
        counts();
        Due.end();
    }

    private static void newObject() {
        NamedStreams x = new NamedStreams(77L);
        for (int what = 0; what < 3; what++) {
            Due.is("new count(" + what + ")", x.count(what), 0);
        }
        Due.is("new status()", x.status(), 0);
        Due.is("new tries()", x.tries(), 0);
        Due.is("new span", x.span(0, 0, 0, 5), -1);
        Due.is("new fraction", x.fraction(0, 0, 0, 1, 5), -1);
        Due.is("new pick", x.pick(0, 0, 0), -1);
        Due.is("new permuted", x.permuted(0, 0, 0, 5, 0), -1);
        Due.is("new open", x.open(0, 0), -1);
        Due.is("new told", x.told(0, 0), -1);
        Due.is("new back", x.back(0), -3);
        Due.is("new path()", x.path(), -1);
        long[] seeds = {0L, 1L, -1L, Long.MIN_VALUE, Long.MAX_VALUE, 0x123456789ABCDEFL};
        for (long seed : seeds) {
            NamedStreams y = Due.withPath(seed, 3);
            Due.is("word of seed " + seed, y.word(4, 0, 5),
                Model.wordOf(seed, 4, Model.keyOf(List.of(3L)), 5));
        }
    }

    private static void parts() {
        NamedStreams x = new NamedStreams(0);
        long[] told = {5L, 5L, Long.MIN_VALUE, -1L};
        for (int i = 0; i < 4; i++) {
            Due.is("part " + i, x.part(told[i]), i + 1);
            Due.is("count(2)", x.count(2), i + 1);
        }
        Due.is("fifth part", x.part(9), -2);
        Due.is("count(2) behind it", x.count(2), 4);
        Due.is("path()", x.path(), 0);
        Due.is("key(0) has nothing of the fifth", x.key(0),
            Model.keyOf(List.of(5L, 5L, Long.MIN_VALUE, -1L)));
        Due.is("part behind path()", x.part(1), 1);
    }

    private static void paths() {
        NamedStreams x = new NamedStreams(0);
        Due.is("path() of none", x.path(), -1);
        Due.is("count(0)", x.count(0), 0);
        Due.is("1", Due.addPath(x, 1), 0);
        Due.is("1 0 is not 1", Due.addPath(x, 1, 0), 1);
        Due.is("0", Due.addPath(x, 0), 2);
        Due.is("0 1 is not 1 0", Due.addPath(x, 0, 1), 3);
        Due.is("1 2 3 4", Due.addPath(x, 1, 2, 3, 4), 4);
        Due.is("1 2 3 5", Due.addPath(x, 1, 2, 3, 5), 5);
        Due.is("1 again", Due.addPath(x, 1), 0);
        Due.is("1 0 again", Due.addPath(x, 1, 0), 1);
        Due.is("1 2 3 5 again", Due.addPath(x, 1, 2, 3, 5), 5);
        Due.is("2^32 + 1 is not 1", Due.addPath(x, (1L << 32) + 1), 6);
        Due.is("count(0)", x.count(0), 7);
        Due.is("count(2)", x.count(2), 0);
        Due.is("path() behind path()", x.path(), -1);
    }

    private static void fullPaths() {
        NamedStreams x = new NamedStreams(0);
        for (int i = 0; i < 24; i++) {
            Due.is("path " + i, Due.addPath(x, 100 + i), i);
        }
        x.part(7);
        x.part(8);
        Due.is("path 24", x.path(), -2);
        Due.is("its parts stay", x.count(2), 2);
        Due.is("count(0)", x.count(0), 24);
        Due.is("part behind FULL", x.part(9), 3);
        Due.is("path() still FULL", x.path(), -2);
        NamedStreams y = new NamedStreams(0);
        for (int i = 0; i < 24; i++) {
            Due.addPath(y, i);
        }
        Due.is("a like row is no new path", Due.addPath(y, 23), 23);
        Due.is("its parts are told", y.count(2), 0);
        Due.is("key(23)", y.key(23), Model.keyOf(List.of(23L)));
        Due.is("key(24)", y.key(24), 0);
        Due.is("status()", y.status(), -1);
    }

    private static void keys() {
        // the first numbers of the well-known generator with seed 0
        Due.is("key of 0", Due.withPath(5, 0).key(0), 0xE220A8397B1DCDAFL);
        NamedStreams x = new NamedStreams(1);
        Due.addPath(x, Model.G);
        Due.is("key of G: MIX(0)", x.key(0), 0L);
        Due.is("a key that is 0 is told", x.status(), 0);
        List<List<Long>> rows = List.of(List.of(1L), List.of(-1L, 2L), List.of(Long.MAX_VALUE, 0L, 3L),
            List.of(Long.MIN_VALUE, -9L, 1L << 40, 4L), List.of(0L, 0L, 0L, 0L), List.of(0L, 0L, 0L));
        for (int i = 0; i < rows.size(); i++) {
            rows.get(i).forEach(x::part);
            Due.is("path", x.path(), i + 1);
        }
        for (int i = 0; i < rows.size(); i++) {
            Due.is("key of " + rows.get(i), x.key(i + 1), Model.keyOf(rows.get(i)));
            Due.is("status()", x.status(), 0);
        }
        int[] none = {-1, 7, 24, Integer.MIN_VALUE, Integer.MAX_VALUE};
        for (int path : none) {
            x.key(0);
            Due.is("key(" + path + ")", x.key(path), 0);
            Due.is("status()", x.status(), -1);
        }
    }

    private static void statusHangsOnKeyAndWordAlone() {
        NamedStreams x = Due.withPath(0, 1);
        x.span(0, 5, 0, 5);
        x.open(0, 9);
        x.weight(-1, 0);
        Due.is("status() ahead of any key, word", x.status(), 0);
        x.word(0, 1, 0);
        Due.is("status() behind a word of no path", x.status(), -1);
        x.span(0, 0, 0, 5);
        x.open(0, 0);
        Due.is("status() behind other calls", x.status(), -1);
        x.word(0, 0, 0);
        Due.is("status() behind a word", x.status(), 0);
        x.next(9, 9);
        x.path();
        Due.is("status() behind others that are refused", x.status(), 0);
        x.key(1);
        Due.is("status() behind a key of no path", x.status(), -1);
        Due.is("status() again", x.status(), -1);
        x.key(0);
        Due.is("status() behind a key", x.status(), 0);
    }

    private static void counts() {
        NamedStreams x = Due.withPath(0, 1);
        Due.addPath(x, 2);
        Due.addPath(x, 3);
        x.open(0, 0);
        x.open(0, 1);
        x.part(4);
        Due.is("count(0)", x.count(0), 3);
        Due.is("count(1)", x.count(1), 2);
        Due.is("count(2)", x.count(2), 1);
        x.split(0);
        Due.is("count(0) behind split", x.count(0), 4);
        Due.is("count(1) behind split", x.count(1), 3);
        Due.is("count(2) behind split", x.count(2), 1);
        int[] wrong = {-1, 3, Integer.MIN_VALUE, Integer.MAX_VALUE};
        for (int what : wrong) {
            Due.is("count(" + what + ")", x.count(what), -1);
        }
    }
}
