import java.math.BigInteger;
import java.util.Arrays;
import java.util.List;

/**
 * The edges that the document's Terms name, a method for each sentence.
 * NONE of its draws is in NoneTest; what is refused is in RefusedTest.
 */
public final class TermsEdgesTest {
    private static final long MOST = Long.MAX_VALUE;
    private static final long LEAST = Long.MIN_VALUE;
    /** A third of all words is beyond the greatest multiple of this. */
    private static final long THIRD = 6148914691236517206L;
    private static final BigInteger TWO_64 = BigInteger.ONE.shiftLeft(64);

    public static void main(String[] args) {
        pathsAtMost();
        rowsOfParts();
        likeRows();
        keyAtFirst();
        keyGoesRound();
        wordGoesRound();
        sumThenXor();
        countersAsLongs();
        wordsInOrder();
        spanAboveZero();
        spanBelowGreatestMultiple();
        spanOfPowersOfTwo();
        spanWithoutSign();
        spanTries();
        fractionZeroToB();
        fractionHighestFirst();
        fractionDigitAtTheHalf();
        fractionGoesNotRound();
        fractionBitThatDiffers();
        fractionEnds();
        fractionOverAWord();
        fractionAtOnce();
        weightsAtFirst();
        pickReaches();
        pickGreat();
        pickZero();
        permutationSizes();
        permutationPlaces();
        streamsAtMost();
        streamPlaces();
        splitParts();
        keptRows();
        theFiveNumbers();
        Due.end();
    }

    // ---- 1

    private static void pathsAtMost() {
        Due.sentence("PATHS 0, 1, .. (24 at most)");
        NamedStreams x = new NamedStreams(0);
        for (int i = 0; i < 24; i++) {
            Due.is("path() " + i, Due.addPath(x, 50 - i), i);
        }
        Due.is("path() 24", Due.addPath(x, 0), -2);
        Due.is("count(0)", x.count(0), 24);
        for (int i = 0; i < 24; i++) {
            Due.is("key(" + i + ")", x.key(i), Crafted.slowKey(50 - i));
        }
    }

    private static void rowsOfParts() {
        Due.sentence("rows of 1 to 4 PARTS");
        NamedStreams x = new NamedStreams(0);
        Due.is("path() of no part", x.path(), -1);
        Due.is("path() of 1 part", Due.addPath(x, LEAST), 0);
        Due.is("path() of 4 parts", Due.addPath(x, MOST, 0, -1, LEAST), 1);
        Due.is("path() of 5 parts has the first 4", Due.addPath(x, MOST, 0, -1, LEAST, 5), 1);
        Due.is("key of 1 part", x.key(0), Crafted.slowKey(LEAST));
        Due.is("key of 4 parts", x.key(1), Crafted.slowKey(MOST, 0, -1, LEAST));
    }

    private static void likeRows() {
        Due.sentence("like rows are one PATH");
        NamedStreams x = new NamedStreams(0);
        long[][] rows = {{0}, {0, 0}, {0, 0, 0}, {0, 0, 0, 0}, {1, 0, 0, 0}, {0, 1, 0, 0}, {0, 0, 1, 0}, {0, 0, 0, 1},
            {1}, {1L << 32}, {LEAST}, {-1}, {-1, -1}};
        for (int i = 0; i < rows.length; i++) {
            Due.is("row " + i + ", new", Due.addPath(x, rows[i]), i);
        }
        for (int i = rows.length - 1; i >= 0; i--) {
            Due.is("row " + i + ", again", Due.addPath(x, rows[i]), i);
        }
        Due.is("count(0)", x.count(0), rows.length);
    }

    private static void keyAtFirst() {
        Due.sentence("The KEY of a PATH: 0 at first");
        // MIX(0 + G ^ G) is MIX(0), which is 0
        Due.is("key of G", Due.withPath(0, Model.G).key(0), 0);
        Due.is("key of G, G", Due.withPath(0, Model.G, Model.G).key(0), 0);
        Due.is("key of 0", Due.withPath(0, 0).key(0), Crafted.slowKey(0));
    }

    private static void keyGoesRound() {
        Due.sentence("for each PART MIX(KEY + G ^ PART) (the sum first)");
        // the first part makes the key -1, so that the next sum goes round to G - 1
        long first = Crafted.unmix(-1) ^ Model.G;
        Due.is("key of -1", Due.withPath(0, first).key(0), -1);
        Due.is("key behind -1", Due.withPath(0, first, Model.G - 1).key(0), 0);
        Due.is("key behind -1, another", Due.withPath(0, first, MOST).key(0), Crafted.slowKey(first, MOST));
        Due.is("key of 4 parts", Due.withPath(0, -1, LEAST, MOST, 1).key(0), Crafted.slowKey(-1, LEAST, MOST, 1));
    }

    private static void wordGoesRound() {
        Due.sentence("All here are 64 bits, going round.");
        long[] edges = {0, -1, 1, MOST, MOST - 1, LEAST, LEAST + 1, Model.G, -Model.G};
        long key = Crafted.slowKey(5);
        for (long seed : edges) {
            NamedStreams x = Due.withPath(seed, 5);
            for (long run : edges) {
                for (long counter : new long[] {0, -1, MOST, LEAST}) {
                    Due.is("word(" + run + ", 0, " + counter + ") of seed " + seed, x.word(run, 0, counter),
                        Crafted.slowWord(seed, run, key, counter));
                }
            }
        }
    }

    private static void sumThenXor() {
        Due.sentence("(the sum, then ^)");
        // seed + G * (run + 1) is the key itself, so that nothing is left of both but 0
        long key = Model.keyOf(List.of(5L));
        NamedStreams x = Due.withPath(key - 3 * Model.G, 5);
        Due.is("word(2, 0, -1)", x.word(2, 0, -1), 0);
        Due.is("word(2, 0, 0)", x.word(2, 0, 0), Model.mix(Model.G));
    }

    // ---- 2

    private static void countersAsLongs() {
        Due.sentence("its WORDS are those of COUNTERS 32 c, 32 c + 1, .. (as longs)");
        NamedStreams x = Due.withPath(8, 5);
        long n = 1L << 62;
        // 32 c is beyond an int from 67108864 on, and goes round to 0 as an int at 134217728
        int[] places = {0, 1, 67108863, 67108864, 134217728, 2147483646, 2147483647};
        for (int c : places) {
            long word = x.word(6, 0, 32L * c);
            Due.is("span at " + c, x.span(6, 0, c, n), word & (n - 1));
            Due.is("fraction at " + c, x.fraction(6, 0, c, 1, 2), word < 0 ? 0 : 1);
        }
        x.weight(0, n / 2);
        x.weight(1, n / 2);
        for (int c : places) {
            Due.is("pick at " + c, x.pick(6, 0, c), (x.word(6, 0, 32L * c) & (n - 1)) < n / 2 ? 0 : 1);
        }
    }

    private static void wordsInOrder() {
        Due.sentence("its WORDS are those of COUNTERS 32 c, 32 c + 1, .. (as longs), in order");
        int[] places = {0, 3, 67108864, 2147483647};
        for (int c : places) {
            NamedStreams x = Crafted.withWord(0, 32L * c, -1);
            Due.is("its first word", x.word(0, 0, 32L * c), -1);
            long second = x.word(0, 0, 32L * c + 1);
            Due.is("span of 3 at " + c, x.span(0, 0, c, 3), Long.remainderUnsigned(second, 3));
            Due.is("its tries()", x.tries(), 2);
        }
    }

    private static void spanAboveZero() {
        Due.sentence("A SPAN of n (above 0)");
        for (long word : new long[] {0, 1, -1, LEAST, MOST}) {
            NamedStreams x = Crafted.withFirstWord(word);
            Due.is("span of 1", x.span(0, 0, 0, 1), 0);
            Due.is("its tries()", x.tries(), 1);
            Due.is("span of 0", x.span(0, 0, 0, 0), -4);
            Due.is("span of -1", x.span(0, 0, 0, -1), -1);
        }
        Due.is("span of the greatest, word 0", Crafted.withFirstWord(0).span(0, 0, 0, MOST), 0);
        Due.is("span of the greatest, word MOST", Crafted.withFirstWord(MOST).span(0, 0, 0, MOST), 0);
        Due.is("span of the greatest, word MOST - 1", Crafted.withFirstWord(MOST - 1).span(0, 0, 0, MOST), MOST - 1);
    }

    private static void spanBelowGreatestMultiple() {
        Due.sentence("below the greatest multiple of n that is 2^64 at most");
        long[] sizes = {3, 5, 6, 7, 10, 38, 1000003, (1L << 32) + 1, (1L << 32) - 1, (1L << 62) - 1, (1L << 62) + 1,
            THIRD - 1, THIRD, THIRD + 1, MOST - 1, MOST};
        for (long n : sizes) {
            long bound = TWO_64.subtract(TWO_64.mod(BigInteger.valueOf(n))).longValue();
            NamedStreams below = Crafted.withFirstWord(bound - 1);
            Due.is("span of " + n + ", 1 below", below.span(0, 0, 0, n), n - 1);
            Due.is("its tries()", below.tries(), 1);
            for (long word : new long[] {bound, -1}) {
                NamedStreams at = Crafted.withFirstWord(word);
                at.span(0, 0, 0, n);
                Due.holds("span of " + n + " looks further behind " + word, at.tries() > 1);
            }
        }
    }

    private static void spanOfPowersOfTwo() {
        Due.sentence("the greatest multiple of n that is 2^64 at most");
        // 2^64 is a multiple itself: no word is beyond it
        for (int power = 0; power < 63; power++) {
            NamedStreams x = Crafted.withFirstWord(-1);
            long n = 1L << power;
            Due.is("span of " + n, x.span(0, 0, 0, n), n - 1);
            Due.is("its tries()", x.tries(), 1);
        }
    }

    private static void spanWithoutSign() {
        Due.sentence("it modulo n, without sign");
        long[] words = {0, 1, MOST, LEAST, LEAST + 1, LEAST + 1234567890123L, LEAST + (1L << 61)};
        long[] sizes = {1, 2, 3, 10, 1000003, (1L << 62) - 1, 1L << 62, (1L << 62) + 1, MOST};
        for (long word : words) {
            NamedStreams x = Crafted.withFirstWord(word);
            for (long n : sizes) {
                Due.is("span of " + n + ", word " + word, x.span(0, 0, 0, n),
                    Model.unsigned(word).mod(BigInteger.valueOf(n)).longValue());
            }
        }
        Due.is("2^63 modulo 10", Crafted.withFirstWord(LEAST).span(0, 0, 0, 10), 8);
    }

    private static void spanTries() {
        Due.sentence("TRIES are the WORDS that were looked at.");
        NamedStreams one = Crafted.withFirstWord(-2);
        one.span(0, 0, 0, 3);
        Due.is("tries() of 1 word", one.tries(), 1);
        NamedStreams two = Crafted.withFirstWord(-1);
        two.span(0, 0, 0, 3);
        Due.is("tries() of 2 words", two.tries(), 2);
        two.span(0, 0, 1, 3);
        Due.is("tries() at another place", two.tries(), 1);
    }

    private static void fractionZeroToB() {
        Due.sentence("A FRACTION a of b (0 to b; b 1 or more)");
        NamedStreams x = Crafted.withFirstWord(0);
        Due.is("0 of 1", x.fraction(0, 0, 0, 0, 1), 0);
        Due.is("1 of 1", x.fraction(0, 0, 0, 1, 1), 1);
        Due.is("2 of 1", x.fraction(0, 0, 0, 2, 1), -1);
        Due.is("-1 of 1", x.fraction(0, 0, 0, -1, 1), -1);
        Due.is("0 of the greatest", x.fraction(0, 0, 0, 0, MOST), 0);
        Due.is("the greatest of the greatest", x.fraction(0, 0, 0, MOST, MOST), 1);
        Due.is("the greatest of 1 less", x.fraction(0, 0, 0, MOST, MOST - 1), -1);
        Due.is("1 less of the greatest, word 0", x.fraction(0, 0, 0, MOST - 1, MOST), 1);
        Due.is("1 of the greatest, word 0", x.fraction(0, 0, 0, 1, MOST), 1);
    }

    private static void fractionHighestFirst() {
        Due.sentence("a row of bits, of each WORD the highest first");
        for (int alike = 0; alike < 62; alike++) {
            // the digits of 1 of 2^62 are 61 zeros and a one, so a one of the word is the first to differ
            NamedStreams x = Crafted.withFirstWord(LEAST >>> alike);
            Due.is("1 of 2^62, one behind " + alike + " zeros", x.fraction(0, 0, 0, 1, 1L << 62), 0);
            Due.is("its tries()", x.tries(), alike + 1);
        }
    }

    private static void fractionDigitAtTheHalf() {
        Due.sentence("each digit is 1, if 2 r is b or more");
        long[][] odds = {{1, 2, 1}, {2, 4, 1}, {1, 3, 0}, {2, 3, 1}, {1L << 61, 1L << 62, 1}, {(1L << 61) - 1, 1L << 62, 0},
            {(1L << 62) - 1, MOST, 0}, {1L << 62, MOST, 1}};
        for (long[] o : odds) {
            // of the words with only zeros or only ones one differs in the first bit
            NamedStreams x = Crafted.withFirstWord(o[2] == 1 ? 0 : -1);
            Due.is(o[0] + " of " + o[1], x.fraction(0, 0, 0, o[0], o[1]), o[2]);
            Due.is("its tries()", x.tries(), 1);
        }
    }

    private static void fractionGoesNotRound() {
        Due.sentence("r is 2 r, less b then");
        // digits of (2^63 - 2) / (2^63 - 1): 62 ones and a zero, again and again; 2 r is beyond a long
        NamedStreams ones = Crafted.withFirstWord(-1);
        Due.is("the word of ones", ones.fraction(0, 0, 0, MOST - 1, MOST), 0);
        Due.is("its tries()", ones.tries(), 63);
        NamedStreams less = Crafted.withFirstWord(-8);
        Due.is("61 ones and a zero", less.fraction(0, 0, 0, MOST - 1, MOST), 1);
        Due.is("its tries()", less.tries(), 62);
    }

    private static void fractionBitThatDiffers() {
        Due.sentence("at the first place where they differ it is so, if the bit is 0");
        // digits of 1 / 3: 0101..
        long third = 0x5555555555555555L;
        for (int place = 0; place < 64; place++) {
            NamedStreams x = Crafted.withFirstWord(third ^ (LEAST >>> place));
            Due.is("1 of 3, differing behind " + place, x.fraction(0, 0, 0, 1, 3), place % 2);
            Due.is("its tries()", x.tries(), place + 1);
        }
    }

    private static void fractionEnds() {
        Due.sentence("not so, if r becomes 0 with all alike so far");
        for (int bits = 1; bits <= 62; bits++) {
            // one bit that is left of the odds is the last digit; what the word has behind it is not looked at
            NamedStreams x = Crafted.withFirstWord((1L << (64 - bits)) | 1);
            Due.is("1 of 2^" + bits, x.fraction(0, 0, 0, 1, 1L << bits), 0);
            Due.is("its tries()", x.tries(), bits);
            NamedStreams y = Crafted.withFirstWord((1L << (64 - bits)) - 1);
            Due.is("1 of 2^" + bits + ", one bit lower", y.fraction(0, 0, 0, 1, 1L << bits), 1);
            Due.is("its tries()", y.tries(), bits);
        }
        NamedStreams x = Crafted.withFirstWord(0xC000000000000000L);
        Due.is("6 of 8 ends with its second digit", x.fraction(0, 0, 0, 6, 8), 0);
        Due.is("its tries()", x.tries(), 2);
    }

    private static void fractionOverAWord() {
        Due.sentence("a row of bits, of each WORD the highest first");
        long[][] odds = {{1, 3}, {2, 3}, {1, 7}, {3, 5}, {1, MOST}, {MOST - 1, MOST}, {MOST / 3, MOST - 7}};
        for (long[] o : odds) {
            long digits = BigInteger.valueOf(o[0]).shiftLeft(64).divide(BigInteger.valueOf(o[1])).longValue();
            NamedStreams x = Crafted.withFirstWord(digits);
            long rest = BigInteger.valueOf(o[0]).shiftLeft(64).mod(BigInteger.valueOf(o[1])).longValue();
            int drawn = x.fraction(0, 0, 0, o[0], o[1]);
            int tries = x.tries();
            // what is left behind 64 digits, against the second word alone
            NamedStreams y = Crafted.withFirstWord(x.word(0, 0, 1));
            Due.is(o[0] + " of " + o[1] + " goes on", drawn, y.fraction(0, 0, 0, rest, o[1]));
            Due.is("its tries()", tries, 64 + y.tries());
        }
    }

    private static void fractionAtOnce() {
        Due.sentence("a = b is so, a = 0 not so at once, without a bit");
        for (long b : new long[] {1, 2, 3, 1L << 62, MOST}) {
            NamedStreams x = Due.withPath(1, 1);
            x.span(0, 0, 0, 5);
            Due.is(b + " of " + b, x.fraction(0, 0, 0, b, b), 1);
            Due.is("its tries()", x.tries(), 0);
            x.span(0, 0, 0, 5);
            Due.is("0 of " + b, x.fraction(0, 0, 0, 0, b), 0);
            Due.is("its tries()", x.tries(), 0);
        }
    }

    private static void weightsAtFirst() {
        Due.sentence("WEIGHTS 0 .. 9, longs of 0 or more (0 at first)");
        NamedStreams x = Due.withPath(1, 1);
        Due.is("pick at first", x.pick(0, 0, 0), -4);
        for (int k = 0; k < 10; k++) {
            NamedStreams y = Due.withPath(1, 1);
            Due.is("weight(" + k + ", 1)", y.weight(k, 1), 1);
            Due.is("pick of it alone", y.pick(0, 0, 0), k);
        }
    }

    private static void pickReaches() {
        Due.sentence("the first k for which WEIGHTS 0 to k come to more than that");
        // weights 0, 3, 0, 0, 5, 0 ..: the spans 0 to 7 of their sum
        int[] due = {1, 1, 1, 4, 4, 4, 4, 4};
        for (int drawn = 0; drawn < 8; drawn++) {
            NamedStreams x = Crafted.withFirstWord(drawn);
            x.weight(1, 3);
            x.weight(4, 5);
            Due.is("pick of " + drawn, x.pick(0, 0, 0), due[drawn]);
        }
        NamedStreams last = Crafted.withFirstWord(MOST - 1);
        last.weight(0, MOST - 1);
        last.weight(9, 1);
        Due.is("pick of the greatest", last.pick(0, 0, 0), 9);
        NamedStreams first = Crafted.withFirstWord(MOST - 2);
        first.weight(0, MOST - 1);
        first.weight(9, 1);
        Due.is("pick of 1 less", first.pick(0, 0, 0), 0);
    }

    private static void pickGreat() {
        Due.sentence("GREAT: the sum is beyond a long");
        long quarter = 1L << 62;
        // the sums that go round come out at 2^63, 2^64, 2^64 + 5 and 2^64 + 2^62
        long[][] great = {{MOST, 1}, {1, 0, 0, 0, 0, 0, 0, 0, 0, MOST}, {quarter, quarter},
            {quarter, quarter, quarter, quarter}, {quarter, quarter, quarter, quarter, 5},
            {quarter, quarter, quarter, quarter, quarter}, {MOST, MOST, 2}, {MOST, MOST, 3},
            {MOST, MOST, MOST, MOST, MOST, MOST, MOST, MOST, MOST, MOST}};
        for (long[] row : great) {
            Due.is("pick of " + Arrays.toString(row), weighted(row).pick(0, 0, 0), -5);
        }
        long[][] fit = {{MOST}, {MOST - 1, 1}, {quarter, quarter - 1}, {1, 0, 0, 0, 0, 0, 0, 0, 0, MOST - 1}};
        for (long[] row : fit) {
            Due.holds("pick of " + Arrays.toString(row) + " is no GREAT", weighted(row).pick(0, 0, 0) >= 0);
        }
    }

    private static NamedStreams weighted(long[] row) {
        NamedStreams x = Due.withPath(2, 2);
        for (int k = 0; k < row.length; k++) {
            x.weight(k, row[k]);
        }
        return x;
    }

    private static void pickZero() {
        Due.sentence("ZERO: it is 0.");
        NamedStreams x = weighted(new long[] {0, 0, 7});
        Due.is("pick of 7", x.pick(0, 0, 0), 2);
        x.weight(2, 0);
        Due.is("pick of 0 anew", x.pick(0, 0, 0), -4);
        x.weight(9, 1);
        Due.is("pick of 1", x.pick(0, 0, 0), 9);
    }

    private static void permutationSizes() {
        Due.sentence("A PERMUTATION of n (0 .. 40)");
        NamedStreams x = Due.withPath(3, 3);
        Due.is("n = -1", x.permuted(0, 0, 0, -1, 0), -1);
        Due.is("n = 0 has no number 0", x.permuted(0, 0, 0, 0, 0), -1);
        Due.is("n = 1", x.permuted(0, 0, 0, 1, 0), 0);
        Due.is("tries() of n = 1: no span", x.tries(), 0);
        Due.is("n = 41", x.permuted(0, 0, 0, 41, 0), -1);
        boolean[] came = new boolean[40];
        for (int k = 0; k < 40; k++) {
            int number = x.permuted(0, 0, 0, 40, k);
            Due.holds("number " + k + " of 40", number >= 0 && number < 40 && !came[number]);
            came[number >= 0 && number < 40 ? number : 0] = true;
        }
    }

    private static void permutationPlaces() {
        Due.sentence("for i from n - 1 down to 1 the one at i and the one at the SPAN of i + 1 at COUNTER c + i change places");
        // of 2 only the place c + 1 is drawn: an even word changes them, an odd one does not
        for (int c : new int[] {0, 9, 2147483645}) {
            for (long word : new long[] {4, 5, -1, -2}) {
                NamedStreams x = Crafted.withWord(0, 32L * (c + 1), word);
                int first = word % 2 == 0 ? 1 : 0;
                Due.is("number 0 at " + c + ", word " + word, x.permuted(0, 0, c, 2, 0), first);
                Due.is("number 1 at " + c + ", word " + word, x.permuted(0, 0, c, 2, 1), 1 - first);
            }
        }
        // of 3 the place c + 2 is drawn first: its span says what becomes the last
        for (int drawn = 0; drawn < 3; drawn++) {
            NamedStreams x = Crafted.withWord(0, 64, drawn);
            Due.is("number 2 of 3, span " + drawn, x.permuted(0, 0, 0, 3, 2), drawn);
        }
    }

    // ---- 3

    private static void streamsAtMost() {
        Due.sentence("STREAMS, 8 at most, numbered as they are opened");
        NamedStreams x = Due.withPath(4, 4);
        Due.is("open", x.open(0, 0), 0);
        Due.is("split", x.split(0), 1);
        for (int i = 2; i < 7; i++) {
            Due.is("open", x.open(-i, 0), i);
        }
        Due.is("split", x.split(0), 7);
        Due.is("open, 8 are there", x.open(0, 0), -2);
        Due.is("split, 8 are there", x.split(0), -2);
        Due.is("count(1)", x.count(1), 8);
        Due.is("the last draws", x.next(7, 1L << 62), x.span(0, x.told(7, 0), 0, 1L << 62));
    }

    private static void streamPlaces() {
        Due.sentence("a place from 0 on: the next draw is at this COUNTER, then it is 1 more, whatever came");
        NamedStreams x = Due.withPath(4, 4);
        x.open(Long.MAX_VALUE, 0);
        x.open(Long.MAX_VALUE, 0);
        Due.is("place at first", x.told(0, 1), 0);
        Due.moveTo(x, 1, 2147483645);
        for (int i = 0; i < 2; i++) {
            Due.is("next", x.next(0, 1L << 62), x.span(Long.MAX_VALUE, 0, i, 1L << 62));
            Due.is("place", x.told(0, 1), i + 1);
            Due.is("next", x.next(1, 1L << 62), x.span(Long.MAX_VALUE, 0, 2147483645 + i, 1L << 62));
            Due.is("place", x.told(1, 1), 2147483646 + i);
        }
        Due.is("next at the last place", x.next(1, 1L << 62), -1);
    }

    private static void splitParts() {
        Due.sentence("a STREAM of the same RUN whose PATH has one PART more, the number of STREAMS that this one was SPLIT into before");
        NamedStreams x = Due.withPath(4, -1, LEAST, MOST);
        x.open(LEAST, 0);
        for (int i = 0; i < 7; i++) {
            Due.is("split", x.split(0), i + 1);
            int path = x.told(i + 1, 0);
            Due.is("key of its path", x.key(path), Crafted.slowKey(-1, LEAST, MOST, i));
            Due.is("its next", x.next(i + 1, 1L << 62), x.span(LEAST, path, 0, 1L << 62));
        }
    }

    private static void keptRows() {
        Due.sentence("KEPT 0 .. 3 hold a STREAM's number, place, and how often it was SPLIT.");
        NamedStreams x = Due.withPath(4, 4);
        for (int k = 0; k < 4; k++) {
            x.open(0, 0);
            x.skip(k, 10 * k);
        }
        x.split(3);
        for (int k = 0; k < 4; k++) {
            Due.is("keep(" + k + ")", x.keep(k, 3 - k), 10 * (3 - k));
        }
        x.split(3);
        for (int stream = 0; stream < 4; stream++) {
            x.skip(stream, 500);
        }
        for (int k = 0; k < 4; k++) {
            Due.is("back(" + k + ")", x.back(k), 3 - k);
            Due.is("its place", x.told(3 - k, 1), 10 * (3 - k));
            Due.is("its splits", x.told(3 - k, 2), k == 0 ? 1 : 0);
        }
    }

    private static void theFiveNumbers() {
        Due.sentence("BAD -1: a number is not as told, there is no such thing; FULL -2; NONE -3; ZERO -4, GREAT -5 as told.");
        Due.is("BAD", NamedStreams.BAD, -1);
        Due.is("FULL", NamedStreams.FULL, -2);
        Due.is("NONE", NamedStreams.NONE, -3);
        Due.is("ZERO", NamedStreams.ZERO, -4);
        Due.is("GREAT", NamedStreams.GREAT, -5);
    }
}
