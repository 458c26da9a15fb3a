import java.lang.reflect.Method;
import java.nio.file.Files;
import java.nio.file.Path;
import java.util.regex.Matcher;
import java.util.regex.Pattern;

/**
 * NONE of draws: promises 6, 7, 9, 10, 11, 14 and 15. No place is known whose 32 words come to NONE, so these
 * are asked of copies of the class that are the same but for the great numbers of MIX and WORD.
 */
public final class NoneTest {
    private static final long G = 0x9E3779B97F4A7C15L;
    private static final long FIRST = 0xBF58476D1CE4E5B9L;
    private static final long SECOND = 0x94D049BB133111EBL;
    /** A third of all words is beyond the greatest multiple of this. */
    private static final long THIRD = 6148914691236517206L;
    private static final long NO_SPAN_OF_THIRD = 2 * THIRD;
    private static final int LAST = 2147483647;

    /** G is 0 here: all words of an object are one. */
    private static Class<?> oneWord;
    /** All three are 1 here: the words of counters that follow each other come of numbers that do. */
    private static Class<?> wordsInARow;

    private final Class<?> face;
    private final Object x;

    private NoneTest(Class<?> face, long seed, long part) throws Exception {
        this.face = face;
        this.x = face.getConstructor(long.class).newInstance(seed);
        ask("part", part);
        ask("path");
        Due.is("key(0)", ask("key", 0), 0);
        ask("open", 0L, 0);
    }

    public static void main(String[] args) throws Exception {
        Path folder = Files.createTempDirectory("none");
        try {
            String text = Files.readString(Path.of("src/main/java/NamedStreams.java"));
            String zero = withNumber(text, G, "0L");
            oneWord = copy(zero, folder.resolve("one"));
            String row = withNumber(withNumber(withNumber(text, G, "1L"), FIRST, "1L"), SECOND, "1L");
            wordsInARow = copy(row, folder.resolve("row"));
            testAll();
        } finally {
            Compiled.delete(folder);
        }
        Due.end();
    }

    private static void testAll() throws Exception {
        spanNone();
        spanThatTheLastWordDecides();
        spanOfSmallSizesNone();
        fractionNone();
        fractionThatIsDecided();
        pickNone();
        permutationNone();
        triesOfNone();
        nextNone();
        nextNoneAtTheLastPlaces();
        nextPickNone();
        noneIsNoRefusal();
    }

    private static NoneTest withOneWord(long word) throws Exception {
        // MIX(0) is 0, so part 0 has the key 0, and the word is MIX(MIX(seed))
        NoneTest test = new NoneTest(oneWord, Crafted.unmix(Crafted.unmix(word)), 0);
        Due.is("word(0, 0, 0)", test.ask("word", 0L, 0, 0L), word);
        Due.is("word(-7, 0, 31)", test.ask("word", -7L, 0, 31L), word);
        return test;
    }

    /** The word of this counter is 0; those ahead of it, some thousands at least, have their highest bits set. */
    private static NoneTest withZeroWordAt(int counter) throws Exception {
        long base = -counter - 1;
        long start = Crafted.unshift(Crafted.unshift(Crafted.unshift(base, 31), 27), 30);
        NoneTest test = new NoneTest(wordsInARow, start - 1, 1);
        Due.is("word(0, 0, " + counter + ")", test.ask("word", 0L, 0, (long) counter), 0);
        for (int ahead = 0; ahead < counter; ahead++) {
            long word = test.ask("word", 0L, 0, (long) ahead);
            Due.holds("the word ahead is beyond", Long.compareUnsigned(word, NO_SPAN_OF_THIRD) >= 0);
        }
        return test;
    }

    // ---- promises 6 and 11

    private static void spanNone() throws Exception {
        Due.sentence("NONE, if the 32nd is not.");
        NoneTest at = withOneWord(NO_SPAN_OF_THIRD);
        Due.is("span, all words are the bound", at.ask("span", 0L, 0, 0, THIRD), -3);
        Due.is("tries()", at.ask("tries"), 32);
        NoneTest below = withOneWord(NO_SPAN_OF_THIRD - 1);
        Due.is("span, all words are 1 below", below.ask("span", 0L, 0, 0, THIRD), THIRD - 1);
        Due.is("tries()", below.ask("tries"), 1);
        NoneTest row = withZeroWordAt(32);
        Due.is("span, the 33rd word would be below", row.ask("span", 0L, 0, 0, THIRD), -3);
        Due.is("tries()", row.ask("tries"), 32);
        Due.is("span at the next place", row.ask("span", 0L, 0, 1, THIRD), 0);
        Due.is("tries()", row.ask("tries"), 1);
    }

    private static void spanThatTheLastWordDecides() throws Exception {
        Due.sentence("NONE, if the 32nd is not.");
        for (int ahead : new int[] {0, 1, 2, 30, 31}) {
            NoneTest test = withZeroWordAt(ahead);
            Due.is("span, " + ahead + " words are beyond", test.ask("span", 0L, 0, 0, THIRD), 0);
            Due.is("tries()", test.ask("tries"), ahead + 1);
        }
    }

    private static void spanOfSmallSizesNone() throws Exception {
        Due.sentence("below the greatest multiple of n that is 2^64 at most");
        NoneTest test = withOneWord(-1);
        for (long n = 1; n <= 70; n++) {
            boolean power = (n & (n - 1)) == 0;
            Due.is("span of " + n + ", word 2^64 - 1", test.ask("span", 0L, 0, LAST, n), power ? n - 1 : -3);
            Due.is("tries()", test.ask("tries"), power ? 1 : 32);
        }
    }

    private static void triesOfNone() throws Exception {
        Due.sentence("TRIES of the latest span(), fraction() that was not BAD or ZERO");
        NoneTest test = withOneWord(-1);
        test.ask("span", 0L, 0, 0, 3L);
        test.ask("span", 0L, 0, 0, 0L);
        test.ask("fraction", 0L, 0, 0, 2L, 1L);
        test.ask("pick", 0L, 0, 0);
        Due.is("tries() behind refusals behind NONE", test.ask("tries"), 32);
        test.ask("span", 0L, 0, 0, 2L);
        Due.is("tries() behind a span behind NONE", test.ask("tries"), 1);
    }

    // ---- promise 7

    private static void fractionNone() throws Exception {
        Due.sentence("NONE, if 32 WORDS do not decide.");
        // the 64 digits of these odds come again and again
        long[][] odds = {{1, 3, 0x5555555555555555L}, {2, 3, 0xAAAAAAAAAAAAAAAAL}, {1, 5, 0x3333333333333333L},
            {4, 5, 0xCCCCCCCCCCCCCCCCL}, {1, 15, 0x1111111111111111L}, {1, 255, 0x0101010101010101L},
            {1, 4294967295L, 0x0000000100000001L}};
        for (long[] o : odds) {
            NoneTest test = withOneWord(o[2]);
            Due.is(o[0] + " of " + o[1], test.ask("fraction", 0L, 0, 0, o[0], o[1]), -3);
            Due.is("tries()", test.ask("tries"), 2048);
            Due.is(o[0] + " of " + o[1] + " at the last place", test.ask("fraction", 0L, 0, LAST, o[0], o[1]), -3);
        }
    }

    private static void fractionThatIsDecided() throws Exception {
        Due.sentence("NONE, if 32 WORDS do not decide.");
        NoneTest test = withOneWord(0x5555555555555554L);
        Due.is("1 of 3, the 64th bit is 0", test.ask("fraction", 0L, 0, 0, 1L, 3L), 1);
        Due.is("tries()", test.ask("tries"), 64);
        // of 2^63 - 1 the digits come again behind 63, the words' bits behind 64
        NoneTest zero = withOneWord(1L << 62);
        Due.is("2^61 of 2^63 - 1, the 65th bit is 0", zero.ask("fraction", 0L, 0, 0, 1L << 61, Long.MAX_VALUE), 1);
        Due.is("tries()", zero.ask("tries"), 65);
        NoneTest one = withOneWord(Long.MIN_VALUE + 1);
        Due.is("2^62 of 2^63 - 1, the 65th bit is 1", one.ask("fraction", 0L, 0, 0, 1L << 62, Long.MAX_VALUE), 0);
        Due.is("tries()", one.ask("tries"), 65);
    }

    // ---- promises 9 and 10

    private static void pickNone() throws Exception {
        Due.sentence("A PICK. BAD: PATH, c; ZERO; GREAT; NONE.");
        NoneTest none = withOneWord(-1);
        none.ask("weight", 9, 3L);
        Due.is("pick, all words are beyond", none.ask("pick", 0L, 0, 0), -3);
        Due.is("tries()", none.ask("tries"), 32);
        none.ask("weight", 0, 1L);
        Due.is("pick of 4, none is", none.ask("pick", 0L, 0, 0), 9);
        NoneTest last = withZeroWordAt(31);
        last.ask("weight", 4, THIRD);
        Due.is("pick, the 32nd word decides", last.ask("pick", 0L, 0, 0), 4);
        Due.is("tries()", last.ask("tries"), 32);
    }

    private static void permutationNone() throws Exception {
        Due.sentence("change places (NONE, if one is)");
        // 2^64 modulo 38 is 36, and below 30 modulo each other number up to 40
        NoneTest test = withOneWord(-30);
        for (int n = 1; n <= 40; n++) {
            for (int k : new int[] {0, n - 1}) {
                long number = test.ask("permuted", 0L, 0, 0, n, k);
                Due.holds("permuted of " + n + " is " + number, n < 38 ? number >= 0 && number < n : number == -3);
                Due.is("tries() behind " + n, test.ask("tries"), n == 1 ? 0 : n < 38 ? 1 : 32);
            }
        }
        NoneTest ones = withOneWord(-1);
        Due.is("permuted of 2, word 2^64 - 1", ones.ask("permuted", 0L, 0, 0, 2, 1), 1);
        Due.is("permuted of 3, word 2^64 - 1", ones.ask("permuted", 0L, 0, 0, 3, 0), -3);
        Due.is("permuted of 4: that of 3 is NONE", ones.ask("permuted", 0L, 0, 0, 4, 3), -3);
        Due.is("BAD is no NONE", ones.ask("permuted", 0L, 0, 0, 4, 4), -1);
        Due.is("permuted of 2 behind NONE", ones.ask("permuted", 0L, 0, 0, 2, 0), 0);
    }

    // ---- promises 14 and 15

    private static void nextNone() throws Exception {
        Due.sentence("then it is 1 more, whatever came");
        NoneTest test = withOneWord(-1);
        for (int place = 0; place < 5; place++) {
            Due.is("next at " + place, test.ask("next", 0, 3L), -3);
            Due.is("its tries()", test.ask("tries"), 32);
            Due.is("its place", test.ask("told", 0, 1), place + 1);
        }
        Due.is("next of 4", test.ask("next", 0, 4L), 3);
        Due.is("its place", test.ask("told", 0, 1), 6);
        NoneTest row = withZeroWordAt(32);
        Due.is("next, the 33rd word would be below", row.ask("next", 0, THIRD), -3);
        Due.is("next, that word is its first", row.ask("next", 0, THIRD), 0);
    }

    private static void nextNoneAtTheLastPlaces() throws Exception {
        Due.sentence("BAD: n, STREAM, its place is 2147483647; ZERO; NONE.");
        NoneTest test = withOneWord(-1);
        test.ask("skip", 0, 1000000000);
        test.ask("skip", 0, 1000000000);
        test.ask("skip", 0, 147483646);
        Due.is("next at 2147483646", test.ask("next", 0, 3L), -3);
        Due.is("its place", test.ask("told", 0, 1), LAST);
        Due.is("next at 2147483647", test.ask("next", 0, 3L), -1);
        Due.is("its place", test.ask("told", 0, 1), LAST);
    }

    private static void nextPickNone() throws Exception {
        Due.sentence("The next PICK. BAD: STREAM, its place; ZERO; GREAT; NONE.");
        NoneTest test = withOneWord(-1);
        test.ask("weight", 1, 3L);
        for (int place = 0; place < 5; place++) {
            Due.is("nextPick at " + place, test.ask("nextPick", 0), -3);
            Due.is("its tries()", test.ask("tries"), 32);
            Due.is("its place", test.ask("told", 0, 1), place + 1);
        }
        test.ask("weight", 1, 2L);
        Due.is("nextPick of 2", test.ask("nextPick", 0), 1);
        Due.is("its place", test.ask("told", 0, 1), 6);
    }

    private static void noneIsNoRefusal() throws Exception {
        Due.sentence("(NONE of a draw is no refusal)");
        NoneTest test = withOneWord(-1);
        test.ask("key", 5);
        test.ask("span", 0L, 0, 0, 3L);
        Due.is("status() behind NONE", test.ask("status"), -1);
        Due.is("its tries()", test.ask("tries"), 32);
        test.ask("fraction", 0L, 0, 0, 0L, 3L);
        test.ask("key", 0);
        test.ask("next", 0, 3L);
        Due.is("status() behind NONE", test.ask("status"), 0);
        Due.is("its tries()", test.ask("tries"), 32);
    }

    // ---- the copies

    /** The text with another number in this one's stead, however its literal is written. */
    private static String withNumber(String text, long number, String other) {
        String digits = Long.toHexString(number).replaceAll("(?<=.)(?=.)", "_*");
        Matcher told = Pattern.compile("(?i)0x" + digits + "L|" + number + "L").matcher(text);
        Due.holds("the text has the number " + Long.toHexString(number), told.find());
        return told.replaceAll(other);
    }

    private static Class<?> copy(String text, Path folder) throws Exception {
        // not the test's own loader, which would find the class itself first
        return Compiled.of("NamedStreams", text, folder, ClassLoader.getPlatformClassLoader());
    }

    private long ask(String name, Object... arguments) throws Exception {
        for (Method method : face.getMethods()) {
            if (method.getName().equals(name)) {
                return ((Number) method.invoke(x, arguments)).longValue();
            }
        }
        throw new IllegalArgumentException(name);
    }
}
