import java.util.List;

/** Promises 2, 3, 4 and 22, ordinary calls: part, path, key, count. */
public final class PathsTest {
    public static void main(String[] args) {
        paths();
        keys();
        counts();
        Due.end();
    }

    private static void paths() {
        NamedStreams x = new NamedStreams(0);
        Due.is("1", Due.addPath(x, 1), 0);
        Due.is("1 0 is not 1", Due.addPath(x, 1, 0), 1);
        Due.is("0", Due.addPath(x, 0), 2);
        Due.is("0 1 is not 1 0", Due.addPath(x, 0, 1), 3);
        Due.is("1 2 3 4", Due.addPath(x, 1, 2, 3, 4), 4);
        Due.is("1 2 3 5", Due.addPath(x, 1, 2, 3, 5), 5);
        Due.is("1 again", Due.addPath(x, 1), 0);
        Due.is("1 0 again", Due.addPath(x, 1, 0), 1);
        Due.is("1 2 3 5 again", Due.addPath(x, 1, 2, 3, 5), 5);
        Due.is("2^32 + 1 is not 1", Due.addPath(x, (1L << 32) + 1), 6);
        Due.is("count(0)", x.count(0), 7);
        Due.is("count(2)", x.count(2), 0);
    }

    private static void keys() {
        // the first numbers of the well-known generator with seed 0
        Due.is("key of 0", Due.withPath(5, 0).key(0), 0xE220A8397B1DCDAFL);
        NamedStreams x = new NamedStreams(1);
        List<List<Long>> rows = List.of(List.of(1L), List.of(-1L, 2L), List.of(Long.MAX_VALUE, 0L, 3L),
            List.of(Long.MIN_VALUE, -9L, 1L << 40, 4L), List.of(0L, 0L, 0L, 0L), List.of(0L, 0L, 0L));
        for (int i = 0; i < rows.size(); i++) {
            rows.get(i).forEach(x::part);
            Due.is("path", x.path(), i);
        }
        for (int i = 0; i < rows.size(); i++) {
            Due.is("key of " + rows.get(i), x.key(i), Model.keyOf(rows.get(i)));
            Due.is("status()", x.status(), 0);
        }
    }

    private static void counts() {
        NamedStreams x = Due.withPath(0, 1);
        Due.addPath(x, 2);
        Due.addPath(x, 3);
        x.open(0, 0);
        x.open(0, 1);
        x.part(4);
        Due.is("count(0)", x.count(0), 3);
        Due.is("count(1)", x.count(1), 2);
        Due.is("count(2)", x.count(2), 1);
        x.split(0);
        Due.is("count(0) behind split", x.count(0), 4);
        Due.is("count(1) behind split", x.count(1), 3);
        Due.is("count(2) behind split", x.count(2), 1);
    }
}
