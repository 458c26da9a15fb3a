import java.math.BigInteger;
import java.util.List;

/** Objects whose words are the ones that a test wants: MIX taken back to the seed. */
final class Crafted {
    private static final BigInteger TWO_64 = BigInteger.ONE.shiftLeft(64);
    private static final BigInteger G = new BigInteger("9E3779B97F4A7C15", 16);
    private static final BigInteger FIRST = new BigInteger("BF58476D1CE4E5B9", 16);
    private static final BigInteger SECOND = new BigInteger("94D049BB133111EB", 16);
    private static final long PART = 21L;
    private static final long KEY = Model.keyOf(List.of(PART));

    private Crafted() {
    }

    /** An object with one path, 0, for which word(run, 0, counter) is this word. */
    static NamedStreams withWord(long run, long counter, long word) {
        return Due.withPath(seedOf(run, KEY, counter, word), PART);
    }

    /** An object with one path, 0, whose place 0 of run 0 begins with this word. */
    static NamedStreams withFirstWord(long word) {
        return withWord(0, 0, word);
    }

    static long seedOf(long run, long key, long counter, long word) {
        long base = unmix(word) - Model.G * (counter + 1);
        return (unmix(base) ^ key) - Model.G * (run + 1);
    }

    /** The z of which MIX makes this. */
    static long unmix(long mixed) {
        long z = unshift(mixed, 31) * SECOND.modInverse(TWO_64).longValue();
        z = unshift(z, 27) * FIRST.modInverse(TWO_64).longValue();
        return unshift(z, 30);
    }

    /** The y for which y ^ y >>> by is this. */
    static long unshift(long shifted, int by) {
        long y = shifted;
        for (int known = by; known < 64; known += by) {
            y = shifted ^ (y >>> by);
        }
        return y;
    }

    /** The WORD by sums and products that never go round, taken modulo 2^64 behind each step. */
    static long slowWord(long seed, long run, long key, long counter) {
        BigInteger inner = slowSum(seed, run).xor(Model.unsigned(key));
        return slowMix(slowSum(slowMix(inner).longValue(), counter)).longValue();
    }

    private static BigInteger slowSum(long start, long number) {
        BigInteger times = BigInteger.valueOf(number).add(BigInteger.ONE);
        return Model.unsigned(start).add(G.multiply(times)).mod(TWO_64);
    }

    private static BigInteger slowMix(BigInteger start) {
        BigInteger z = start.xor(start.shiftRight(30)).multiply(FIRST).mod(TWO_64);
        z = z.xor(z.shiftRight(27)).multiply(SECOND).mod(TWO_64);
        return z.xor(z.shiftRight(31));
    }

    /** The KEY in the same way. */
    static long slowKey(long... parts) {
        BigInteger key = BigInteger.ZERO;
        for (long part : parts) {
            key = slowMix(key.add(G).mod(TWO_64).xor(Model.unsigned(part)));
        }
        return key.longValue();
    }
}
