import java.util.Arrays;
import java.util.List;

/** Promises 8, 9, 10 and 21, ordinary calls: weight, pick, permuted, counted. */
public final class PicksTest {
    private static final long SEED = -5L;
    private static final long KEY = Model.keyOf(List.of(11L));

    public static void main(String[] args) {
        picks();
        permutations();
        allPermutationsCome();
        counted();
        countedOfAll();
        Due.end();
    }

    private static NamedStreams fresh() {
        return Due.withPath(SEED, 11L);
    }

    private static void picks() {
        long[][] rows = {{1, 1}, {3, 0, 0, 5}, {0, 0, 7, 0, 1}, {1, 2, 3, 4, 5, 6, 7, 8, 9, 10},
            {0, 0, 0, 0, 0, 0, 0, 0, 1, 1}, {1, 0, 0, 0, 0, 0, 0, 0, 0, 1000000}};
        for (long[] row : rows) {
            NamedStreams x = fresh();
            for (int k = 0; k < row.length; k++) {
                x.weight(k, row[k]);
            }
            for (int c = 0; c < 300; c++) {
                long drawn = Model.spanOf(SEED, 2, KEY, c, Arrays.stream(row).sum())[0];
                Due.is("pick(2, 0, " + c + ") of " + Arrays.toString(row), x.pick(2, 0, c), reached(row, drawn));
            }
        }
    }

    private static int reached(long[] row, long drawn) {
        long sum = 0;
        for (int k = 0; k < row.length; k++) {
            sum += row[k];
            if (sum > drawn) {
                return k;
            }
        }
        return -99;
    }

    private static void permutations() {
        for (int n = 1; n <= 40; n++) {
            NamedStreams x = fresh();
            int[] places = {0, 1, 1000, 2147483647 - n};
            for (int c : places) {
                int[] due = permutation(6, c, n);
                for (int k = 0; k < n; k++) {
                    Due.is("permuted(6, 0, " + c + ", " + n + ", " + k + ")", x.permuted(6, 0, c, n, k), due[k]);
                }
            }
        }
    }

    private static int[] permutation(long run, long c, int n) {
        int[] row = new int[n];
        for (int i = 0; i < n; i++) {
            row[i] = i;
        }
        for (int i = n - 1; i >= 1; i--) {
            int j = (int) Model.spanOf(SEED, run, KEY, c + i, i + 1)[0];
            int moved = row[i];
            row[i] = row[j];
            row[j] = moved;
        }
        return row;
    }

    private static void allPermutationsCome() {
        boolean[] came = new boolean[27];
        int different = 0;
        for (int c = 0; c < 300; c += 3) {
            NamedStreams x = fresh();
            int code = 0;
            for (int k = 0; k < 3; k++) {
                code = code * 3 + x.permuted(0, 0, c, 3, k);
            }
            different += came[code] ? 0 : 1;
            came[code] = true;
        }
        Due.is("different permutations of 3", different, 6);
    }

    private static void counted() {
        NamedStreams x = new NamedStreams(0);
        Due.is("counted(16, 1, 0)", x.counted(16, 1, 0), 65536);
        Due.is("counted(16, 3, 2)", x.counted(16, 3, 2), 21845);
        Due.is("counted(4, 16, 0)", x.counted(4, 16, 0), 1);
        Due.is("counted(4, 17, 0)", x.counted(4, 17, 0), 0);
        Due.is("counted(4, 9, 0): 9 to 15 are not taken", x.counted(4, 9, 0), 1);
    }

    private static void countedOfAll() {
        Model model = new Model(0);
        for (int b = 1; b <= 5; b++) {
            for (int n = 1; n <= 40; n++) {
                NamedStreams x = new NamedStreams(0);
                for (int i = 0; i < n; i++) {
                    Due.is("counted(" + b + ", " + n + ", " + i + ")", x.counted(b, n, i), model.counted(b, n, i));
                }
            }
        }
    }
}
