/** Nothing that is drawn elsewhere, or added later, changes a draw; and two objects have nothing in common. */
public final class ApartTest {
    public static void main(String[] args) {
        drawsStay();
        objectsAreApart();
        Due.end();
    }

    private static long[] draws(NamedStreams x) {
        return new long[] {x.key(0), x.word(3, 0, 9), x.span(3, 0, 4, 1000003), x.fraction(3, 0, 5, 2, 7),
            x.pick(3, 0, 6), x.permuted(3, 0, 7, 40, 20), x.span(3, 0, 4, Long.MAX_VALUE)};
    }

    private static void same(String when, long[] got, long[] want) {
        for (int i = 0; i < want.length; i++) {
            Due.is("draw " + i + " " + when, got[i], want[i]);
        }
    }

    private static NamedStreams weighted() {
        NamedStreams x = Due.withPath(99, 1, 2);
        x.weight(0, 4);
        x.weight(7, 5);
        return x;
    }

    private static void drawsStay() {
        NamedStreams x = weighted();
        long[] want = draws(x);
        same("drawn again", draws(x), want);
        Due.addPath(x, 8, 8, 8);
        x.part(5);
        x.open(3, 0);
        x.open(4, 1);
        same("behind more paths and streams", draws(x), want);
        for (int i = 0; i < 20; i++) {
            x.next(0, 10);
            x.nextPick(1);
        }
        x.split(0);
        x.keep(0, 0);
        x.skip(0, 77);
        x.back(0);
        same("behind draws elsewhere", draws(x), want);
        x.span(3, 5, 4, 10);
        x.fraction(3, 0, 4, 9, 5);
        x.weight(0, -1);
        same("behind refusals", draws(x), want);
    }

    private static void objectsAreApart() {
        NamedStreams x = weighted();
        long[] want = draws(x);
        NamedStreams y = new NamedStreams(5);
        Due.addPath(y, 70);
        y.weight(0, 1000);
        y.open(0, 0);
        y.permuted(0, 0, 0, 30, 3);
        y.keep(2, 0);
        same("behind another object", draws(x), want);
        Due.is("streams of the first", x.count(1), 0);
        Due.is("kept of the first", x.back(2), -3);
        Due.is("paths of the first", x.count(0), 1);
    }
}
