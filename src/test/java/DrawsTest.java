import java.util.List;
import java.util.SplittableRandom;

/** Promises 5, 6, 7 and 11: word, span, fraction, tries. */
public final class DrawsTest {
    private static final long SEED = 20261116L;
    private static final long KEY = Model.keyOf(List.of(7L, -2L));
    /** A third of all words is beyond the greatest multiple of this. */
    private static final long THIRD = 6148914691236517206L;

    public static void main(String[] args) {
        words();
        wordsAsTheLibraryHasThem();
        spans();
        spansThatTryAgain();
        wrongSpans();
        fractions();
        longFractions();
        oddsOfFractions();
        wrongFractions();
        triesStay();
        Due.end();
    }

    private static NamedStreams fresh() {
        return Due.withPath(SEED, 7L, -2L);
    }

    private static void words() {
        NamedStreams x = fresh();
        long[] edges = {0L, 1L, -1L, 31L, 32L, 1L << 40, Long.MAX_VALUE, Long.MIN_VALUE};
        for (long run : edges) {
            for (long counter : edges) {
                Due.is("word(" + run + ", 0, " + counter + ")", x.word(run, 0, counter),
                    Model.wordOf(SEED, run, KEY, counter));
                Due.is("status()", x.status(), 0);
            }
        }
        int[] none = {-1, 1, 24, Integer.MIN_VALUE, Integer.MAX_VALUE};
        for (int path : none) {
            x.word(0, 0, 0);
            Due.is("word of path " + path, x.word(0, path, 0), 0);
            Due.is("status()", x.status(), -1);
        }
        Due.is("tries() behind words", x.tries(), 0);
    }

    private static void wordsAsTheLibraryHasThem() {
        NamedStreams x = fresh();
        SplittableRandom row = new SplittableRandom(Model.mix((SEED + Model.G * 10) ^ KEY));
        for (int i = 0; i < 100; i++) {
            Due.is("word(9, 0, " + i + ")", x.word(9, 0, i), row.nextLong());
        }
    }

    private static void spans() {
        long[] sizes = {1, 2, 3, 10, 1L << 32, (1L << 32) + 1, 1L << 62, (1L << 62) + 1, THIRD - 1, THIRD,
            THIRD + 1, Long.MAX_VALUE - 1, Long.MAX_VALUE};
        int[] places = {0, 1, 2, 67108863, 67108864, 2147483646, 2147483647};
        for (long n : sizes) {
            NamedStreams x = fresh();
            for (int c : places) {
                long[] due = Model.spanOf(SEED, -3, KEY, c, n);
                String call = "span(-3, 0, " + c + ", " + n + ")";
                Due.is(call, x.span(-3, 0, c, n), due[0]);
                Due.is("tries() of " + call, x.tries(), due[1]);
            }
        }
    }

    private static void spansThatTryAgain() {
        int most = 0;
        for (int start = 0; start < 20000; start += 200) {
            NamedStreams x = fresh();
            for (int c = start; c < start + 200; c++) {
                long[] due = Model.spanOf(SEED, 0, KEY, c, THIRD);
                Due.is("span(0, 0, " + c + ", a third)", x.span(0, 0, c, THIRD), due[0]);
                Due.is("its tries()", x.tries(), due[1]);
                most = Math.max(most, x.tries());
            }
        }
        Due.holds("one of the spans needs more than 6 words", most > 6);
    }

    private static void wrongSpans() {
        NamedStreams x = fresh();
        Due.is("n = 0", x.span(0, 0, 0, 0), -4);
        Due.is("n = -1", x.span(0, 0, 0, -1), -1);
        Due.is("n least", x.span(0, 0, 0, Long.MIN_VALUE), -1);
        Due.is("c = -1", x.span(0, 0, -1, 5), -1);
        Due.is("c least", x.span(0, 0, Integer.MIN_VALUE, 5), -1);
        Due.is("path -1", x.span(0, -1, 0, 5), -1);
        Due.is("path 1", x.span(0, 1, 0, 5), -1);
        Due.is("n = 0, no path: ZERO is named first", x.span(0, 1, 0, 0), -4);
        Due.is("n = 0, c = -1: ZERO is named first", x.span(0, 0, -1, 0), -4);
        Due.is("tries()", x.tries(), 0);
    }

    private static void fractions() {
        long[][] odds = {{1, 2}, {1, 3}, {2, 3}, {3, 4}, {1, 8}, {7, 8}, {1, 10}, {9, 10}, {5, 5}, {0, 5}, {1, 1},
            {0, 1}, {1, Long.MAX_VALUE}, {Long.MAX_VALUE - 1, Long.MAX_VALUE}, {Long.MAX_VALUE, Long.MAX_VALUE},
            {0, Long.MAX_VALUE}, {1L << 61, 1L << 62}, {(1L << 62) - 1, 1L << 62}, {1L << 62, Long.MAX_VALUE},
            {(1L << 62) + 1, Long.MAX_VALUE}};
        for (long[] o : odds) {
            NamedStreams x = fresh();
            for (int c = 0; c < 100; c++) {
                long[] due = Model.fractionOf(SEED, 8, KEY, c, o[0], o[1]);
                String call = "fraction(8, 0, " + c + ", " + o[0] + ", " + o[1] + ")";
                Due.is(call, x.fraction(8, 0, c, o[0], o[1]), due[0]);
                Due.is("tries() of " + call, x.tries(), due[1]);
            }
            long[] due = Model.fractionOf(SEED, 8, KEY, 2147483647, o[0], o[1]);
            Due.is("fraction at the last place", x.fraction(8, 0, 2147483647, o[0], o[1]), due[0]);
        }
    }

    /** Odds that are the very bits of the words, so that many bits are looked at. */
    private static void longFractions() {
        int past60 = 0;
        int ended = 0;
        for (int c = 0; c < 200; c++) {
            NamedStreams x = fresh();
            long word = x.word(0, 0, 32L * c);
            for (int bits = 58; bits <= 62; bits++) {
                long a = word >>> (64 - bits);
                long[][] odds = {{a, 1L << bits}, {a + 1, 1L << bits}, {a, (1L << bits) - 1}};
                for (long[] o : odds) {
                    long[] due = Model.fractionOf(SEED, 0, KEY, c, o[0], o[1]);
                    Due.is("fraction " + o[0] + " of " + o[1], x.fraction(0, 0, c, o[0], o[1]), due[0]);
                    Due.is("its tries()", x.tries(), due[1]);
                    past60 += x.tries() > 60 ? 1 : 0;
                }
                // alike to the end of the digits is not so
                if (a > 0 && (a & 1) == 1) {
                    Due.is("all alike", x.fraction(0, 0, c, a, 1L << bits), 0);
                    Due.is("its tries()", x.tries(), bits);
                    ended++;
                }
            }
        }
        Due.holds("some fractions look at more than 60 bits", past60 > 0);
        Due.holds("some fractions are alike to the end", ended > 0);
        fractionsOverAWordsEnd();
    }

    /** a / (2^63 - 1) has the 63 bits of a as digits, again and again: some words go on as they began. */
    private static void fractionsOverAWordsEnd() {
        int over = 0;
        for (int c = 0; c < 500; c++) {
            NamedStreams x = fresh();
            long first = x.word(0, 0, 32L * c);
            long a = first >>> 1;
            long[] due = Model.fractionOf(SEED, 0, KEY, c, a, Long.MAX_VALUE);
            Due.is("fraction " + a + " of the greatest", x.fraction(0, 0, c, a, Long.MAX_VALUE), due[0]);
            Due.is("its tries()", x.tries(), due[1]);
            over += x.tries() > 64 ? 1 : 0;
        }
        Due.holds("some fractions look at a second word", over > 10);
    }

    private static void oddsOfFractions() {
        int so = 0;
        for (int start = 0; start < 30000; start += 500) {
            NamedStreams x = fresh();
            for (int c = start; c < start + 500; c++) {
                so += x.fraction(0, 0, c, 1, 3);
            }
        }
        Due.holds("1 of 3 comes about 10000 times of 30000, not " + so, so > 9600 && so < 10400);
    }

    private static void wrongFractions() {
        NamedStreams x = fresh();
        Due.is("b = 0", x.fraction(0, 0, 0, 0, 0), -4);
        Due.is("b = 0, a = 1: a is not 0 to b", x.fraction(0, 0, 0, 1, 0), -1);
        Due.is("b = 0, no path", x.fraction(0, 1, 0, 0, 0), -1);
        Due.is("a = -1", x.fraction(0, 0, 0, -1, 5), -1);
        Due.is("a = 6 of 5", x.fraction(0, 0, 0, 6, 5), -1);
        Due.is("b = -1", x.fraction(0, 0, 0, 0, -1), -1);
        Due.is("a = b = -1", x.fraction(0, 0, 0, -1, -1), -1);
        Due.is("a = -2, b = -1", x.fraction(0, 0, 0, -2, -1), -1);
        Due.is("b least", x.fraction(0, 0, 0, 0, Long.MIN_VALUE), -1);
        Due.is("a least", x.fraction(0, 0, 0, Long.MIN_VALUE, 5), -1);
        Due.is("c = -1", x.fraction(0, 0, -1, 1, 5), -1);
        Due.is("path -1", x.fraction(0, -1, 0, 1, 5), -1);
        Due.is("path 1, a = b", x.fraction(0, 1, 0, 5, 5), -1);
        Due.is("tries()", x.tries(), 0);
    }

    private static void triesStay() {
        NamedStreams x = fresh();
        int c = 0;
        while (Model.spanOf(SEED, 0, KEY, c, THIRD)[1] != 4) {
            c++;
        }
        x.span(0, 0, c, THIRD);
        Due.is("tries()", x.tries(), 4);
        x.span(0, 0, c, 0);
        x.span(0, 0, c, -5);
        x.span(0, 9, c, 5);
        x.fraction(0, 0, c, 0, 0);
        x.fraction(0, 0, c, 7, 5);
        x.word(0, 0, 0);
        x.pick(0, 0, 0);
        x.permuted(0, 0, 0, 1, 0);
        x.permuted(0, 0, 0, 41, 0);
        x.permuted(0, 0, 0, 0, 0);
        x.next(0, 5);
        x.nextPick(0);
        x.weight(0, Long.MAX_VALUE);
        x.weight(1, 1);
        x.pick(0, 0, 0);
        x.counted(3, 3, 0);
        Due.is("tries() behind what draws nothing", x.tries(), 4);
        x.permuted(0, 0, 0, 2, 0);
        Due.is("tries() behind a permutation", x.tries(), 1);
        x.span(0, 0, c, THIRD);
        x.fraction(0, 0, c, 5, 5);
        Due.is("tries() behind a fraction without a bit", x.tries(), 0);
        x.weight(0, THIRD);
        x.weight(1, 0);
        x.pick(0, 0, c);
        Due.is("tries() behind a pick", x.tries(), 4);
        x.fraction(0, 0, c, 0, 5);
        Due.is("tries() behind the fraction 0", x.tries(), 0);
        x.open(0, 0);
        x.skip(0, c);
        x.keep(0, 0);
        x.next(0, THIRD);
        Due.is("tries() behind next", x.tries(), 4);
        x.fraction(0, 0, c, 0, 5);
        x.back(0);
        x.nextPick(0);
        Due.is("tries() behind nextPick", x.tries(), 4);
    }
}
