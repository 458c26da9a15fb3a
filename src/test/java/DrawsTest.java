import java.util.List;
import java.util.SplittableRandom;

/** Promises 5, 6, 7 and 11, ordinary calls: word, span, fraction, tries. */
public final class DrawsTest {
    private static final long SEED = 20261116L;
    private static final long KEY = Model.keyOf(List.of(7L, -2L));
    /** A third of all words is beyond the greatest multiple of this. */
    private static final long THIRD = 6148914691236517206L;

    public static void main(String[] args) {
        words();
        wordsAsTheLibraryHasThem();
        spans();
        spansThatTryAgain();
        fractions();
        longFractions();
        oddsOfFractions();
        Due.end();
    }

    private static NamedStreams fresh() {
        return Due.withPath(SEED, 7L, -2L);
    }

    private static void words() {
        NamedStreams x = fresh();
        long[] edges = {0L, 1L, -1L, 31L, 32L, 1L << 40, Long.MAX_VALUE, Long.MIN_VALUE};
        for (long run : edges) {
            for (long counter : edges) {
                Due.is("word(" + run + ", 0, " + counter + ")", x.word(run, 0, counter),
                    Model.wordOf(SEED, run, KEY, counter));
                Due.is("status()", x.status(), 0);
            }
        }
        Due.is("tries() behind words", x.tries(), 0);
    }

    private static void wordsAsTheLibraryHasThem() {
        NamedStreams x = fresh();
        SplittableRandom row = new SplittableRandom(Model.mix((SEED + Model.G * 10) ^ KEY));
        for (int i = 0; i < 100; i++) {
            Due.is("word(9, 0, " + i + ")", x.word(9, 0, i), row.nextLong());
        }
    }

    private static void spans() {
        long[] sizes = {1, 2, 3, 10, 1L << 32, (1L << 32) + 1, 1L << 62, (1L << 62) + 1, THIRD - 1, THIRD,
            THIRD + 1, Long.MAX_VALUE - 1, Long.MAX_VALUE};
        int[] places = {0, 1, 2, 67108863, 67108864, 2147483646, 2147483647};
        for (long n : sizes) {
            NamedStreams x = fresh();
            for (int c : places) {
                long[] due = Model.spanOf(SEED, -3, KEY, c, n);
                String call = "span(-3, 0, " + c + ", " + n + ")";
                Due.is(call, x.span(-3, 0, c, n), due[0]);
                Due.is("tries() of " + call, x.tries(), due[1]);
            }
        }
    }

    private static void spansThatTryAgain() {
        long most = 0;
        for (int start = 0; start < 20000; start += 200) {
            NamedStreams x = fresh();
            for (int c = start; c < start + 200; c++) {
                long[] due = Model.spanOf(SEED, 0, KEY, c, THIRD);
                Due.is("span(0, 0, " + c + ", a third)", x.span(0, 0, c, THIRD), due[0]);
                Due.is("its tries()", x.tries(), due[1]);
                most = Math.max(most, due[1]);
            }
        }
        Due.holds("one of the spans needs more than 6 words", most > 6);
    }

    private static void fractions() {
        long[][] odds = {{1, 2}, {1, 3}, {2, 3}, {3, 4}, {1, 8}, {7, 8}, {1, 10}, {9, 10}, {5, 5}, {0, 5}, {1, 1},
            {0, 1}, {1, Long.MAX_VALUE}, {Long.MAX_VALUE - 1, Long.MAX_VALUE}, {Long.MAX_VALUE, Long.MAX_VALUE},
            {0, Long.MAX_VALUE}, {1L << 61, 1L << 62}, {(1L << 62) - 1, 1L << 62}, {1L << 62, Long.MAX_VALUE},
            {(1L << 62) + 1, Long.MAX_VALUE}};
        for (long[] o : odds) {
            NamedStreams x = fresh();
            for (int c = 0; c < 100; c++) {
                long[] due = Model.fractionOf(SEED, 8, KEY, c, o[0], o[1]);
                String call = "fraction(8, 0, " + c + ", " + o[0] + ", " + o[1] + ")";
                Due.is(call, x.fraction(8, 0, c, o[0], o[1]), due[0]);
                Due.is("tries() of " + call, x.tries(), due[1]);
            }
            long[] due = Model.fractionOf(SEED, 8, KEY, 2147483647, o[0], o[1]);
            Due.is("fraction at the last place", x.fraction(8, 0, 2147483647, o[0], o[1]), due[0]);
        }
    }

    /** Odds that are the very bits of the words, so that many bits are looked at. */
    private static void longFractions() {
        int past60 = 0;
        int ended = 0;
        for (int c = 0; c < 200; c++) {
            NamedStreams x = fresh();
            long word = x.word(0, 0, 32L * c);
            for (int bits = 58; bits <= 62; bits++) {
                long a = word >>> (64 - bits);
                long[][] odds = {{a, 1L << bits}, {a + 1, 1L << bits}, {a, (1L << bits) - 1}};
                for (long[] o : odds) {
                    long[] due = Model.fractionOf(SEED, 0, KEY, c, o[0], o[1]);
                    Due.is("fraction " + o[0] + " of " + o[1], x.fraction(0, 0, c, o[0], o[1]), due[0]);
                    Due.is("its tries()", x.tries(), due[1]);
                    past60 += x.tries() > 60 ? 1 : 0;
                }
                // alike to the end of the digits is not so
                if (a > 0 && (a & 1) == 1) {
                    Due.is("all alike", x.fraction(0, 0, c, a, 1L << bits), 0);
                    Due.is("its tries()", x.tries(), bits);
                    ended++;
                }
            }
        }
        Due.holds("some fractions look at more than 60 bits", past60 > 0);
        Due.holds("some fractions are alike to the end", ended > 0);
        fractionsOverAWordsEnd();
    }

    /** a / (2^63 - 1) has the 63 bits of a as digits, again and again: some words go on as they began. */
    private static void fractionsOverAWordsEnd() {
        int over = 0;
        for (int c = 0; c < 500; c++) {
            NamedStreams x = fresh();
            long first = x.word(0, 0, 32L * c);
            long a = first >>> 1;
            long[] due = Model.fractionOf(SEED, 0, KEY, c, a, Long.MAX_VALUE);
            Due.is("fraction " + a + " of the greatest", x.fraction(0, 0, c, a, Long.MAX_VALUE), due[0]);
            Due.is("its tries()", x.tries(), due[1]);
            over += x.tries() > 64 ? 1 : 0;
        }
        Due.holds("some fractions look at a second word", over > 10);
    }

    private static void oddsOfFractions() {
        int so = 0;
        for (int start = 0; start < 30000; start += 500) {
            NamedStreams x = fresh();
            for (int c = start; c < start + 500; c++) {
                so += x.fraction(0, 0, c, 1, 3);
            }
        }
        Due.holds("1 of 3 comes about 10000 times of 30000, not " + so, so > 9600 && so < 10400);
    }
}
