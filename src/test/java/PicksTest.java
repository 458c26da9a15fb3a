import java.util.Arrays;
import java.util.List;

/** Promises 8, 9, 10 and 21: weight, pick, permuted, counted. */
public final class PicksTest {
    private static final long SEED = -5L;
    private static final long KEY = Model.keyOf(List.of(11L));

    public static void main(String[] args) {
        weights();
        picks();
        picksOfGreatSums();
        wrongPicks();
        permutations();
        allPermutationsCome();
        wrongPermutations();
        counted();
        countedOfAll();
        Due.end();
    }

    private static NamedStreams fresh() {
        return Due.withPath(SEED, 11L);
    }

    private static void weights() {
        NamedStreams x = fresh();
        for (int k = 0; k < 10; k++) {
            Due.is("weight(" + k + ", 5)", x.weight(k, 5), 1);
            Due.is("pick of one weight", x.pick(0, 0, k), k);
            Due.is("weight(" + k + ", 0)", x.weight(k, 0), 1);
        }
        Due.is("weight(-1, 5)", x.weight(-1, 5), -1);
        Due.is("weight(10, 5)", x.weight(10, 5), -1);
        Due.is("weight(least, 5)", x.weight(Integer.MIN_VALUE, 5), -1);
        Due.is("weight(greatest, 5)", x.weight(Integer.MAX_VALUE, 5), -1);
        Due.is("weight(3, -1)", x.weight(3, -1), -1);
        Due.is("weight(3, least)", x.weight(3, Long.MIN_VALUE), -1);
        Due.is("pick: what is refused is not told", x.pick(0, 0, 0), -4);
        x.weight(4, 1);
        Due.is("weight(4, -1)", x.weight(4, -1), -1);
        Due.is("pick: the old weight stays", x.pick(0, 0, 0), 4);
    }

    private static void picks() {
        long[][] rows = {{1, 1}, {3, 0, 0, 5}, {0, 0, 7, 0, 1}, {1, 2, 3, 4, 5, 6, 7, 8, 9, 10},
            {0, 0, 0, 0, 0, 0, 0, 0, 1, 1}, {1, 0, 0, 0, 0, 0, 0, 0, 0, 1000000}};
        for (long[] row : rows) {
            NamedStreams x = fresh();
            for (int k = 0; k < row.length; k++) {
                x.weight(k, row[k]);
            }
            for (int c = 0; c < 300; c++) {
                long drawn = Model.spanOf(SEED, 2, KEY, c, Arrays.stream(row).sum())[0];
                Due.is("pick(2, 0, " + c + ") of " + Arrays.toString(row), x.pick(2, 0, c), reached(row, drawn));
            }
        }
    }

    private static int reached(long[] row, long drawn) {
        long sum = 0;
        for (int k = 0; k < row.length; k++) {
            sum += row[k];
            if (sum > drawn) {
                return k;
            }
        }
        return -99;
    }

    private static void picksOfGreatSums() {
        NamedStreams x = fresh();
        x.weight(0, Long.MAX_VALUE - 1);
        x.weight(9, 1);
        Due.is("the greatest long is no GREAT", x.pick(0, 0, 0), 0);
        x.weight(5, 1);
        Due.is("1 more is", x.pick(0, 0, 0), -5);
        x.weight(5, 0);
        Due.is("and then not", x.pick(0, 0, 0), 0);
        for (int k = 0; k < 10; k++) {
            x.weight(k, Long.MAX_VALUE);
        }
        Due.is("ten times the greatest", x.pick(0, 0, 0), -5);
        // these go round to 0
        long[] round = {1L << 62, 1L << 62, 1L << 62, 1L << 62, 0, 0, 0, 0, 0, 0};
        for (int k = 0; k < 10; k++) {
            x.weight(k, round[k]);
        }
        Due.is("a sum of 2^64", x.pick(0, 0, 0), -5);
        x.weight(0, (1L << 62) + 5);
        Due.is("a sum of 2^64 + 5", x.pick(0, 0, 0), -5);
        Due.is("tries()", x.tries(), 1);
    }

    private static void wrongPicks() {
        NamedStreams x = fresh();
        Due.is("all weights 0", x.pick(0, 0, 0), -4);
        Due.is("all weights 0, no path", x.pick(0, 1, 0), -1);
        Due.is("all weights 0, c = -1", x.pick(0, 0, -1), -1);
        x.weight(0, 1);
        Due.is("path -1", x.pick(0, -1, 0), -1);
        Due.is("path 1", x.pick(0, 1, 0), -1);
        Due.is("c = -1", x.pick(0, 0, -1), -1);
        Due.is("c least", x.pick(0, 0, Integer.MIN_VALUE), -1);
        Due.is("tries()", x.tries(), 0);
        Due.is("the last place", x.pick(0, 0, 2147483647), 0);
        x.weight(1, Long.MAX_VALUE);
        Due.is("GREAT, no path", x.pick(0, 1, 0), -1);
        Due.is("GREAT, c = -1", x.pick(0, 0, -1), -1);
    }

    private static void permutations() {
        for (int n = 1; n <= 40; n++) {
            NamedStreams x = fresh();
            int[] places = {0, 1, 1000, 2147483647 - n};
            for (int c : places) {
                int[] due = permutation(6, c, n);
                for (int k = 0; k < n; k++) {
                    Due.is("permuted(6, 0, " + c + ", " + n + ", " + k + ")", x.permuted(6, 0, c, n, k), due[k]);
                }
            }
        }
    }

    private static int[] permutation(long run, long c, int n) {
        int[] row = new int[n];
        for (int i = 0; i < n; i++) {
            row[i] = i;
        }
        for (int i = n - 1; i >= 1; i--) {
            int j = (int) Model.spanOf(SEED, run, KEY, c + i, i + 1)[0];
            int moved = row[i];
            row[i] = row[j];
            row[j] = moved;
        }
        return row;
    }

    private static void allPermutationsCome() {
        boolean[] came = new boolean[27];
        int different = 0;
        for (int c = 0; c < 300; c += 3) {
            NamedStreams x = fresh();
            int code = 0;
            for (int k = 0; k < 3; k++) {
                code = code * 3 + x.permuted(0, 0, c, 3, k);
            }
            different += came[code] ? 0 : 1;
            came[code] = true;
        }
        Due.is("different permutations of 3", different, 6);
    }

    private static void wrongPermutations() {
        NamedStreams x = fresh();
        Due.is("n = 0", x.permuted(0, 0, 0, 0, 0), -1);
        Due.is("n = -1", x.permuted(0, 0, 0, -1, 0), -1);
        Due.is("n least", x.permuted(0, 0, 0, Integer.MIN_VALUE, 0), -1);
        Due.is("n = 41", x.permuted(0, 0, 0, 41, 0), -1);
        Due.is("n greatest", x.permuted(0, 0, 0, Integer.MAX_VALUE, 0), -1);
        Due.is("k = -1", x.permuted(0, 0, 0, 5, -1), -1);
        Due.is("k = n", x.permuted(0, 0, 0, 5, 5), -1);
        Due.is("k greatest", x.permuted(0, 0, 0, 5, Integer.MAX_VALUE), -1);
        Due.is("c = -1", x.permuted(0, 0, -1, 5, 0), -1);
        Due.is("c least", x.permuted(0, 0, Integer.MIN_VALUE, 5, 0), -1);
        Due.is("c + n above", x.permuted(0, 0, 2147483643, 5, 0), -1);
        Due.is("c greatest, n = 1", x.permuted(0, 0, 2147483647, 1, 0), -1);
        Due.is("c + n not above, n = 1", x.permuted(0, 0, 2147483646, 1, 0), 0);
        Due.is("path -1", x.permuted(0, -1, 0, 5, 0), -1);
        Due.is("path 1", x.permuted(0, 1, 0, 5, 0), -1);
        Due.is("tries()", x.tries(), 0);
    }

    private static void counted() {
        NamedStreams x = new NamedStreams(0);
        Due.is("counted(16, 1, 0)", x.counted(16, 1, 0), 65536);
        Due.is("counted(16, 3, 2)", x.counted(16, 3, 2), 21845);
        Due.is("counted(15, 65536, 0)", x.counted(15, 65536, 0), 0);
        Due.is("counted(15, 32768, 32767)", x.counted(15, 32768, 32767), 1);
        Due.is("counted(4, 16, 0)", x.counted(4, 16, 0), 1);
        Due.is("counted(4, 17, 0)", x.counted(4, 17, 0), 0);
        Due.is("counted(4, 9, 0): 9 to 15 are not taken", x.counted(4, 9, 0), 1);
        Due.is("b = 0", x.counted(0, 3, 0), -1);
        Due.is("b = 17", x.counted(17, 3, 0), -1);
        Due.is("b = -1", x.counted(-1, 3, 0), -1);
        Due.is("b = 33", x.counted(33, 3, 0), -1);
        Due.is("n = 0", x.counted(3, 0, 0), -1);
        Due.is("n = -1", x.counted(3, -1, -2), -1);
        Due.is("n = 65537", x.counted(16, 65537, 0), -1);
        Due.is("i = -1", x.counted(3, 3, -1), -1);
        Due.is("i = n", x.counted(3, 3, 3), -1);
        Due.is("i greatest", x.counted(3, 3, Integer.MAX_VALUE), -1);
    }

    private static void countedOfAll() {
        Model model = new Model(0);
        for (int b = 1; b <= 5; b++) {
            for (int n = 1; n <= 40; n++) {
                NamedStreams x = new NamedStreams(0);
                for (int i = 0; i < n; i++) {
                    Due.is("counted(" + b + ", " + n + ", " + i + ")", x.counted(b, n, i), model.counted(b, n, i));
                }
            }
        }
    }
}
