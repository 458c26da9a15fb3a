import java.util.ArrayList;
import java.util.List;
import java.util.function.Supplier;
import java.util.function.ToLongFunction;

/**
 * "What is refused changes nothing but status()": each refusal of each call is asked of one of two like objects,
 * and all that can be asked of them behind it is compared.
 */
public final class RefusedTest {
    private static final long MOST = Long.MAX_VALUE;
    private static final long LEAST = Long.MIN_VALUE;
    private static final int LAST = 2147483647;
    private static final int BAD = -1, FULL = -2, NONE = -3, ZERO = -4, GREAT = -5;

    public static void main(String[] args) {
        ofAnEmptyObject();
        ofTheRows();
        ofDraws();
        ofPicks();
        ofStreams();
        ofStreamsAtTheirLastPlace();
        ofFullRows();
        ofKeptOnes();
        ofQuestions();
        ofKeysAndWords();
        Due.end();
    }

    private static void refused(String call, Supplier<NamedStreams> made, ToLongFunction<NamedStreams> asked, long due) {
        Due.sentence("What is refused changes nothing but status()");
        NamedStreams x = made.get();
        NamedStreams like = made.get();
        Due.is(call, asked.applyAsLong(x), due);
        Due.is("status() behind " + call, x.status(), like.status());
        same(call, x, like);
    }

    private static void same(String call, NamedStreams x, NamedStreams like) {
        List<Long> got = allOf(x);
        List<Long> want = allOf(like);
        Due.is("answers behind " + call, got.size(), want.size());
        for (int i = 0; i < Math.min(got.size(), want.size()); i++) {
            Due.is("answer " + i + " behind " + call, got.get(i), want.get(i));
        }
    }

    /** Everything that an object tells, and then what it does with each of its rows. */
    private static List<Long> allOf(NamedStreams x) {
        List<Long> all = new ArrayList<>();
        all.add((long) x.tries());
        counts(x, all);
        streams(x, all);
        for (int path = 0; path < 25; path++) {
            all.add(x.key(path));
        }
        all.add(x.word(3, 0, 4));
        all.add((long) x.pick(3, 0, 4));
        for (int k = 0; k < 4; k++) {
            all.add((long) x.back(k));
            streams(x, all);
        }
        for (int stream = 0; stream < 8; stream++) {
            all.add(x.next(stream, 1L << 62));
            all.add((long) x.nextPick(stream));
            all.add((long) x.split(stream));
        }
        // the weights one by one, as far as the sum fits
        for (int k = 9; k >= 0; k--) {
            all.add((long) x.weight(k, 0));
            all.add((long) x.pick(3, 0, 4 + k));
            all.add((long) x.tries());
        }
        all.add((long) x.part(12345));
        all.add((long) x.path());
        all.add(x.key(x.count(0) - 1));
        counts(x, all);
        streams(x, all);
        return all;
    }

    private static void counts(NamedStreams x, List<Long> all) {
        for (int what = 0; what < 3; what++) {
            all.add((long) x.count(what));
        }
    }

    private static void streams(NamedStreams x, List<Long> all) {
        for (int stream = 0; stream < x.count(1); stream++) {
            for (int what = 0; what < 3; what++) {
                all.add((long) x.told(stream, what));
            }
        }
    }

    /** Two paths, two streams, a part that is told, weights, a kept stream, 2 tries, status() 0. */
    private static NamedStreams ordinary() {
        NamedStreams x = Crafted.withFirstWord(-1);
        Due.addPath(x, 1, 2, 3, 4);
        x.part(9);
        x.open(0, 0);
        x.open(7, 1);
        x.skip(0, 5);
        x.split(0);
        x.keep(1, 0);
        x.next(0, 9);
        x.weight(0, 4);
        x.weight(6, 7);
        x.span(0, 0, 0, 3);
        x.key(0);
        return x;
    }

    /** The same, but status() is BAD and no weight is above 0. */
    private static NamedStreams withoutWeights() {
        NamedStreams x = ordinary();
        x.weight(0, 0);
        x.weight(6, 0);
        x.key(9);
        return x;
    }

    private static NamedStreams withGreatWeights() {
        NamedStreams x = ordinary();
        x.weight(9, MOST);
        return x;
    }

    /** Its streams 0 and 1 are at the last place. */
    private static NamedStreams atTheEnd() {
        NamedStreams x = ordinary();
        Due.moveTo(x, 1, LAST);
        Due.moveTo(x, 0, LAST);
        return x;
    }

    /** 24 paths, 8 streams, 4 parts of a new row, 4 kept ones. */
    private static NamedStreams full() {
        NamedStreams x = Due.withAllPaths();
        for (int i = 0; i < 8; i++) {
            x.open(i, 3 * i);
            x.skip(i, i);
        }
        for (int k = 0; k < 4; k++) {
            x.keep(k, 7 - k);
        }
        for (int i = 0; i < 4; i++) {
            x.part(i);
        }
        x.weight(3, 3);
        x.weight(4, 1);
        x.word(0, 99, 0);
        return x;
    }

    private static NamedStreams fullOfPaths() {
        NamedStreams x = Due.withAllPaths();
        x.open(0, 5);
        x.part(5);
        x.part(6);
        return x;
    }

    private static void ofAnEmptyObject() {
        Supplier<NamedStreams> empty = () -> new NamedStreams(5);
        refused("path()", empty, x -> x.path(), BAD);
        refused("span", empty, x -> x.span(0, 0, 0, 5), BAD);
        refused("span of 0", empty, x -> x.span(0, 0, 0, 0), ZERO);
        refused("fraction", empty, x -> x.fraction(0, 0, 0, 1, 5), BAD);
        refused("pick", empty, x -> x.pick(0, 0, 0), BAD);
        refused("permuted", empty, x -> x.permuted(0, 0, 0, 5, 0), BAD);
        refused("open", empty, x -> x.open(0, 0), BAD);
        refused("next", empty, x -> x.next(0, 5), BAD);
        refused("nextPick", empty, x -> x.nextPick(0), BAD);
        refused("split", empty, x -> x.split(0), BAD);
        refused("skip", empty, x -> x.skip(0, 5), BAD);
        refused("keep", empty, x -> x.keep(0, 0), BAD);
        refused("back", empty, x -> x.back(0), NONE);
        refused("told", empty, x -> x.told(0, 0), BAD);
    }

    private static void ofTheRows() {
        refused("path() of none", () -> Due.withPath(5, 5), x -> x.path(), BAD);
        refused("part 5", RefusedTest::full, x -> x.part(4), FULL);
        refused("path() of a new row", RefusedTest::full, x -> x.path(), FULL);
        refused("path() of 2 parts", RefusedTest::fullOfPaths, x -> x.path(), FULL);
    }

    private static void ofDraws() {
        refused("span of 0", RefusedTest::ordinary, x -> x.span(0, 0, 1, 0), ZERO);
        refused("span of -1", RefusedTest::ordinary, x -> x.span(0, 0, 1, -1), BAD);
        refused("span of no path", RefusedTest::withoutWeights, x -> x.span(0, 9, 1, 5), BAD);
        refused("span at -1", RefusedTest::ordinary, x -> x.span(0, 0, -1, 5), BAD);
        refused("fraction 0 of 0", RefusedTest::ordinary, x -> x.fraction(0, 0, 1, 0, 0), ZERO);
        refused("fraction 6 of 5", RefusedTest::ordinary, x -> x.fraction(0, 0, 1, 6, 5), BAD);
        refused("fraction -1 of 5", RefusedTest::ordinary, x -> x.fraction(0, 0, 1, -1, 5), BAD);
        refused("fraction of -5", RefusedTest::withoutWeights, x -> x.fraction(0, 0, 1, -6, -5), BAD);
        refused("fraction of no path", RefusedTest::ordinary, x -> x.fraction(0, -1, 1, 5, 5), BAD);
        refused("fraction at -1", RefusedTest::ordinary, x -> x.fraction(0, 0, -1, 0, 5), BAD);
        refused("permuted of no path", RefusedTest::ordinary, x -> x.permuted(0, 9, 0, 5, 0), BAD);
        refused("permuted at -1", RefusedTest::ordinary, x -> x.permuted(0, 0, -1, 5, 0), BAD);
        refused("permuted beyond the last", RefusedTest::withoutWeights, x -> x.permuted(0, 0, LAST - 4, 5, 0), BAD);
        refused("permuted of 41", RefusedTest::ordinary, x -> x.permuted(0, 0, 0, 41, 0), BAD);
        refused("permuted of 0", RefusedTest::ordinary, x -> x.permuted(0, 0, 0, 0, 0), BAD);
        refused("permuted, number n", RefusedTest::ordinary, x -> x.permuted(0, 0, 0, 5, 5), BAD);
        refused("permuted, number -1", RefusedTest::ordinary, x -> x.permuted(0, 0, 0, 5, -1), BAD);
    }

    private static void ofPicks() {
        refused("weight(-1, 5)", RefusedTest::ordinary, x -> x.weight(-1, 5), BAD);
        refused("weight(10, 5)", RefusedTest::ordinary, x -> x.weight(10, 5), BAD);
        refused("weight(0, -1)", RefusedTest::ordinary, x -> x.weight(0, -1), BAD);
        refused("weight(9, least)", RefusedTest::withGreatWeights, x -> x.weight(9, LEAST), BAD);
        refused("pick of weights of 0", RefusedTest::withoutWeights, x -> x.pick(0, 0, 1), ZERO);
        refused("pick of great weights", RefusedTest::withGreatWeights, x -> x.pick(0, 0, 1), GREAT);
        refused("pick of no path", RefusedTest::ordinary, x -> x.pick(0, 9, 1), BAD);
        refused("pick at -1", RefusedTest::ordinary, x -> x.pick(0, 0, -1), BAD);
    }

    private static void ofStreams() {
        refused("open of no path", RefusedTest::ordinary, x -> x.open(0, 9), BAD);
        refused("next of 0", RefusedTest::ordinary, x -> x.next(0, 0), ZERO);
        refused("next of -1", RefusedTest::withoutWeights, x -> x.next(0, -1), BAD);
        refused("next of no stream", RefusedTest::ordinary, x -> x.next(3, 5), BAD);
        refused("nextPick of no stream", RefusedTest::ordinary, x -> x.nextPick(-1), BAD);
        refused("nextPick of weights of 0", RefusedTest::withoutWeights, x -> x.nextPick(0), ZERO);
        refused("nextPick of great weights", RefusedTest::withGreatWeights, x -> x.nextPick(0), GREAT);
        refused("split of no stream", RefusedTest::ordinary, x -> x.split(3), BAD);
        refused("split of 4 parts", RefusedTest::ordinary, x -> x.split(1), FULL);
        refused("skip of no stream", RefusedTest::ordinary, x -> x.skip(3, 5), BAD);
        refused("skip by -1", RefusedTest::ordinary, x -> x.skip(0, -1), BAD);
        refused("skip by 1000000001", RefusedTest::withoutWeights, x -> x.skip(0, 1000000001), BAD);
    }

    private static void ofStreamsAtTheirLastPlace() {
        Due.is("place of 0", atTheEnd().told(0, 1), LAST);
        Due.is("place of 1", atTheEnd().told(1, 1), LAST);
        refused("next", RefusedTest::atTheEnd, x -> x.next(0, 5), BAD);
        refused("next of 0", RefusedTest::atTheEnd, x -> x.next(0, 0), BAD);
        refused("nextPick", RefusedTest::atTheEnd, x -> x.nextPick(0), BAD);
        refused("skip by 1", RefusedTest::atTheEnd, x -> x.skip(0, 1), BAD);
        refused("skip by 1000000000", RefusedTest::atTheEnd, x -> x.skip(1, 1000000000), BAD);
    }

    private static void ofFullRows() {
        refused("open, 8 are there", RefusedTest::full, x -> x.open(0, 0), FULL);
        refused("split, 8 are there", RefusedTest::full, x -> x.split(0), FULL);
        refused("split, 24 paths are there", RefusedTest::fullOfPaths, x -> x.split(0), FULL);
    }

    private static void ofKeptOnes() {
        refused("keep(4, 0)", RefusedTest::full, x -> x.keep(4, 0), BAD);
        refused("keep(-1, 0)", RefusedTest::ordinary, x -> x.keep(-1, 0), BAD);
        refused("keep(1, 3)", RefusedTest::ordinary, x -> x.keep(1, 3), BAD);
        refused("keep(0, -1)", RefusedTest::withoutWeights, x -> x.keep(0, -1), BAD);
        refused("back(4)", RefusedTest::full, x -> x.back(4), BAD);
        refused("back(-1)", RefusedTest::ordinary, x -> x.back(-1), BAD);
        refused("back(0)", RefusedTest::ordinary, x -> x.back(0), NONE);
        refused("back(3)", RefusedTest::withoutWeights, x -> x.back(3), NONE);
    }

    private static void ofQuestions() {
        refused("told(0, 3)", RefusedTest::ordinary, x -> x.told(0, 3), BAD);
        refused("told(3, 0)", RefusedTest::withoutWeights, x -> x.told(3, 0), BAD);
        refused("counted(0, 1, 0)", RefusedTest::ordinary, x -> x.counted(0, 1, 0), BAD);
        refused("counted(3, 0, 0)", RefusedTest::ordinary, x -> x.counted(3, 0, 0), BAD);
        refused("counted(3, 3, 3)", RefusedTest::withoutWeights, x -> x.counted(3, 3, 3), BAD);
        refused("count(3)", RefusedTest::ordinary, x -> x.count(3), BAD);
        refused("count(-1)", RefusedTest::withoutWeights, x -> x.count(-1), BAD);
    }

    /** These alone change status(). */
    private static void ofKeysAndWords() {
        Due.sentence("What is refused changes nothing but status()");
        NamedStreams x = ordinary();
        Due.is("key(9)", x.key(9), 0);
        Due.is("status()", x.status(), BAD);
        same("key(9)", x, ordinary());
        NamedStreams y = ordinary();
        Due.is("word(0, 9, 0)", y.word(0, 9, 0), 0);
        Due.is("status()", y.status(), BAD);
        same("word(0, 9, 0)", y, ordinary());
    }
}
