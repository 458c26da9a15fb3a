/** The edges that promises 1 to 12 name, a method for each sentence. NONE is in NoneTest. */
public final class DrawEdgesTest {
    private static final long MOST = Long.MAX_VALUE;
    private static final long LEAST = Long.MIN_VALUE;
    private static final int LAST = 2147483647;
    private static final int[] WRONG_PLACES = {-1, -2, -32, Integer.MIN_VALUE};

    public static void main(String[] args) {
        newObjectIsEmpty();
        newObjectOfAnySeed();
        partCounts();
        partFull();
        pathTakesTheParts();
        pathOfNone();
        pathFull();
        pathFullStays();
        keyOfNone();
        wordOfNone();
        spanZero();
        spanBadPath();
        spanBadPlace();
        spanBadSize();
        fractionBadPath();
        fractionBadPlace();
        fractionBadOdds();
        fractionBadWhole();
        fractionZero();
        weightTold();
        weightBad();
        pickBadPath();
        pickBadPlace();
        pickZero();
        pickGreat();
        permutedNumbers();
        permutedBadPath();
        permutedBadPlace();
        permutedBeyondTheLastPlace();
        permutedBadSize();
        permutedBadNumber();
        triesOfNone();
        triesStayBehindRefusals();
        triesOfOtherCalls();
        statusAheadOfAny();
        statusBehindKeyAndWord();
        statusStaysBehindOthers();
        Due.end();
    }

    private static NamedStreams fresh() {
        return Due.withPath(31, 3, 1);
    }

    private static NamedStreams weighted() {
        NamedStreams x = fresh();
        x.weight(2, 6);
        return x;
    }

    // ---- promise 1

    private static void newObjectIsEmpty() {
        Due.sentence("SEED; no PATHS, no STREAMS.");
        NamedStreams x = new NamedStreams(0);
        for (int what = 0; what < 3; what++) {
            Due.is("count(" + what + ")", x.count(what), 0);
        }
        Due.is("path()", x.path(), -1);
        Due.is("key(0)", x.key(0), 0);
        Due.is("status()", x.status(), -1);
        Due.is("word", x.word(0, 0, 0), 0);
        Due.is("span", x.span(0, 0, 0, 5), -1);
        Due.is("fraction", x.fraction(0, 0, 0, 1, 5), -1);
        Due.is("pick", x.pick(0, 0, 0), -1);
        Due.is("permuted", x.permuted(0, 0, 0, 5, 0), -1);
        Due.is("tries()", x.tries(), 0);
        Due.is("open", x.open(0, 0), -1);
        Due.is("next", x.next(0, 5), -1);
        Due.is("nextPick", x.nextPick(0), -1);
        Due.is("split", x.split(0), -1);
        Due.is("skip", x.skip(0, 0), -1);
        Due.is("keep", x.keep(0, 0), -1);
        Due.is("told", x.told(0, 0), -1);
        for (int k = 0; k < 4; k++) {
            Due.is("back(" + k + ")", x.back(k), -3);
        }
    }

    private static void newObjectOfAnySeed() {
        Due.sentence("SEED");
        for (long seed : new long[] {0, -1, 1, MOST, LEAST, -Model.G, Model.G}) {
            NamedStreams x = Due.withPath(seed, 3, 1);
            Due.is("word of seed " + seed, x.word(0, 0, 0), Crafted.slowWord(seed, 0, Crafted.slowKey(3, 1), 0));
            Due.is("key of seed " + seed, x.key(0), Crafted.slowKey(3, 1));
        }
    }

    // ---- promise 2

    private static void partCounts() {
        Due.sentence("A PART behind those that were told: how many there are.");
        NamedStreams x = new NamedStreams(0);
        long[] parts = {LEAST, MOST, 0, -1};
        for (int i = 0; i < 4; i++) {
            Due.is("part(" + parts[i] + ")", x.part(parts[i]), i + 1);
            Due.is("count(2)", x.count(2), i + 1);
        }
        x.path();
        Due.is("their key", x.key(0), Crafted.slowKey(LEAST, MOST, 0, -1));
    }

    private static void partFull() {
        Due.sentence("FULL: there are 4.");
        NamedStreams x = new NamedStreams(0);
        for (int i = 1; i <= 4; i++) {
            Due.is("part " + i, x.part(i), i);
        }
        Due.is("part 5", x.part(5), -2);
        Due.is("part 6", x.part(1), -2);
        Due.is("count(2)", x.count(2), 4);
        Due.is("path()", x.path(), 0);
        Due.is("key of the first 4", x.key(0), Crafted.slowKey(1, 2, 3, 4));
        Due.is("part behind path()", x.part(5), 1);
        Due.is("path()", x.path(), 1);
        Due.is("key of the part alone", x.key(1), Crafted.slowKey(5));
    }

    // ---- promise 3

    private static void pathTakesTheParts() {
        Due.sentence("The PATH of the PARTS that were told (none are told then): its number.");
        NamedStreams x = new NamedStreams(0);
        Due.is("path() of 4", Due.addPath(x, 1, 2, 3, 4), 0);
        Due.is("count(2)", x.count(2), 0);
        Due.is("path() of 1 has nothing of those", Due.addPath(x, 1), 1);
        Due.is("its key", x.key(1), Crafted.slowKey(1));
        Due.is("path() of a like row", Due.addPath(x, 1, 2, 3, 4), 0);
        Due.is("count(2) behind a like row", x.count(2), 0);
        Due.is("count(0)", x.count(0), 2);
    }

    private static void pathOfNone() {
        Due.sentence("BAD: there are none");
        NamedStreams x = new NamedStreams(0);
        Due.is("path() at first", x.path(), -1);
        Due.is("path() of 1 part", Due.addPath(x, 0), 0);
        Due.is("path() behind path()", x.path(), -1);
        Due.is("count(0)", x.count(0), 1);
        Due.is("path() of none where all paths are", Due.withAllPaths().path(), -1);
    }

    private static void pathFull() {
        Due.sentence("FULL");
        NamedStreams x = Due.withAllPaths();
        Due.is("path() of a new row", Due.addPath(x, 24), -2);
        NamedStreams y = Due.withAllPaths();
        for (int i = 0; i < 24; i++) {
            Due.is("path() of the like row " + i, Due.addPath(y, i), i);
        }
        Due.is("count(2)", y.count(2), 0);
        NamedStreams z = Due.withPath(0, 1);
        z.open(0, 0);
        z.split(0);
        for (int i = 2; i < 24; i++) {
            Due.is("path() " + i, Due.addPath(z, 100, i), i);
        }
        Due.is("path() where a split has made one", Due.addPath(z, 7), -2);
    }

    private static void pathFullStays() {
        Due.sentence("FULL (they stay)");
        NamedStreams x = new NamedStreams(0);
        for (int i = 0; i < 23; i++) {
            Due.addPath(x, i);
        }
        Due.addPath(x, 70, 71);
        Due.is("path() of 70", Due.addPath(x, 70), -2);
        Due.is("count(2)", x.count(2), 1);
        Due.is("path() again", x.path(), -2);
        Due.is("a part behind those that stay", x.part(71), 2);
        Due.is("they make a like row now", x.path(), 23);
        Due.is("count(2)", x.count(2), 0);
        Due.is("path() of 4 parts", Due.addPath(x, 9, 9, 9, 9), -2);
        Due.is("count(2)", x.count(2), 4);
        Due.is("part behind 4 that stay", x.part(9), -2);
        Due.is("count(0)", x.count(0), 24);
    }

    // ---- promises 4 and 5

    private static void keyOfNone() {
        Due.sentence("0: there is none such (status() tells)");
        NamedStreams x = fresh();
        for (int path : Due.wrongNumbers(1)) {
            x.key(0);
            Due.is("key(" + path + ")", x.key(path), 0);
            Due.is("status()", x.status(), -1);
        }
        NamedStreams y = Due.withPath(0, Model.G);
        y.key(1);
        Due.is("a key that is 0", y.key(0), 0);
        Due.is("status() of it", y.status(), 0);
        NamedStreams all = Due.withAllPaths();
        Due.is("key(23)", all.key(23), Crafted.slowKey(23));
        Due.is("key(24)", all.key(24), 0);
        Due.is("status()", all.status(), -1);
    }

    private static void wordOfNone() {
        Due.sentence("0: no such PATH (status()).");
        NamedStreams x = fresh();
        for (int path : Due.wrongNumbers(1)) {
            x.word(0, 0, 0);
            Due.is("word(0, " + path + ", 0)", x.word(0, path, 0), 0);
            Due.is("status()", x.status(), -1);
        }
        NamedStreams y = Crafted.withWord(-1, LEAST, 0);
        y.word(-1, 1, LEAST);
        Due.is("a word that is 0", y.word(-1, 0, LEAST), 0);
        Due.is("status() of it", y.status(), 0);
        NamedStreams all = Due.withAllPaths();
        Due.is("word of path 23", all.word(0, 23, 0), Crafted.slowWord(24, 0, Crafted.slowKey(23), 0));
        Due.is("word of path 24", all.word(0, 24, 0), 0);
    }

    // ---- promise 6

    private static void spanZero() {
        Due.sentence("ZERO: n is 0.");
        NamedStreams x = fresh();
        Due.is("n = 0", x.span(0, 0, 0, 0), -4);
        Due.is("n = 0 at the last place", x.span(0, 0, LAST, 0), -4);
        Due.is("n = 1", x.span(0, 0, 0, 1), 0);
        Due.is("n = 0, no such path: ZERO is named first", x.span(0, 1, 0, 0), -4);
        Due.is("n = 0, c = -1: ZERO is named first", x.span(0, 0, -1, 0), -4);
    }

    private static void spanBadPath() {
        Due.sentence("BAD: PATH");
        NamedStreams x = fresh();
        for (int path : Due.wrongNumbers(1)) {
            Due.is("path " + path, x.span(0, path, 0, 5), -1);
        }
        Due.is("path 23 of 24", Due.withAllPaths().span(0, 23, 0, 1), 0);
        Due.is("path 24 of 24", Due.withAllPaths().span(0, 24, 0, 1), -1);
    }

    private static void spanBadPlace() {
        Due.sentence("BAD: PATH, c");
        for (int c : WRONG_PLACES) {
            Due.is("c = " + c, fresh().span(0, 0, c, 5), -1);
        }
        Due.is("c = 0", fresh().span(0, 0, 0, 1), 0);
        Due.is("c = " + LAST, fresh().span(0, 0, LAST, 1), 0);
    }

    private static void spanBadSize() {
        Due.sentence("n below 0");
        for (long n : new long[] {-1, -2, -4, LEAST, LEAST + 1}) {
            Due.is("n = " + n, fresh().span(0, 0, 0, n), -1);
        }
        Due.holds("n greatest", fresh().span(0, 0, 0, MOST) >= 0);
    }

    // ---- promise 7

    private static void fractionBadPath() {
        Due.sentence("BAD: PATH");
        for (int path : Due.wrongNumbers(1)) {
            Due.is("path " + path, fresh().fraction(0, path, 0, 1, 5), -1);
            Due.is("path " + path + ", without a bit", fresh().fraction(0, path, 0, 5, 5), -1);
            Due.is("path " + path + ", b = 0: BAD is named first", fresh().fraction(0, path, 0, 0, 0), -1);
        }
    }

    private static void fractionBadPlace() {
        Due.sentence("BAD: PATH, c");
        for (int c : WRONG_PLACES) {
            Due.is("c = " + c, fresh().fraction(0, 0, c, 1, 5), -1);
            Due.is("c = " + c + ", without a bit", fresh().fraction(0, 0, c, 0, 5), -1);
            Due.is("c = " + c + ", b = 0: BAD is named first", fresh().fraction(0, 0, c, 0, 0), -1);
        }
        Due.is("c = " + LAST, fresh().fraction(0, 0, LAST, 1, 1), 1);
    }

    private static void fractionBadOdds() {
        Due.sentence("a not 0 to b");
        long[][] wrong = {{-1, 5}, {6, 5}, {LEAST, 5}, {MOST, 5}, {-1, MOST}, {LEAST, MOST}, {MOST, MOST - 1}, {2, 1},
            {-1, 1}, {1, 0}, {-1, 0}, {MOST, 0}, {LEAST, 0}};
        for (long[] odds : wrong) {
            Due.is(odds[0] + " of " + odds[1], fresh().fraction(0, 0, 0, odds[0], odds[1]), -1);
        }
        Due.is("0 of 5", fresh().fraction(0, 0, 0, 0, 5), 0);
        Due.is("5 of 5", fresh().fraction(0, 0, 0, 5, 5), 1);
    }

    private static void fractionBadWhole() {
        Due.sentence("b below 0");
        long[][] wrong = {{0, -1}, {-1, -1}, {-2, -1}, {1, -1}, {0, LEAST}, {LEAST, LEAST}, {LEAST, -1}, {MOST, LEAST}};
        for (long[] odds : wrong) {
            Due.is(odds[0] + " of " + odds[1], fresh().fraction(0, 0, 0, odds[0], odds[1]), -1);
        }
    }

    private static void fractionZero() {
        Due.sentence("ZERO: b is 0");
        Due.is("0 of 0", fresh().fraction(0, 0, 0, 0, 0), -4);
        Due.is("0 of 0 at the last place", fresh().fraction(LEAST, 0, LAST, 0, 0), -4);
        Due.is("0 of 1", fresh().fraction(0, 0, 0, 0, 1), 0);
    }

    // ---- promises 8 and 9

    private static void weightTold() {
        Due.sentence("A WEIGHT is told: 1.");
        for (int k : new int[] {0, 9}) {
            for (long w : new long[] {0, 1, MOST}) {
                NamedStreams x = fresh();
                Due.is("weight(" + k + ", " + w + ")", x.weight(k, w), 1);
                Due.is("pick of it", x.pick(0, 0, 0), w == 0 ? -4 : k);
            }
        }
        NamedStreams x = fresh();
        x.weight(4, MOST);
        Due.is("weight told anew", x.weight(4, 1), 1);
        x.weight(5, MOST - 1);
        Due.holds("the old one is gone", x.pick(0, 0, 0) >= 0);
    }

    private static void weightBad() {
        Due.sentence("A WEIGHT is told: 1. BAD.");
        for (int k : new int[] {-1, 10, 11, Integer.MIN_VALUE, Integer.MAX_VALUE}) {
            Due.is("weight(" + k + ", 1)", fresh().weight(k, 1), -1);
        }
        for (long w : new long[] {-1, LEAST}) {
            for (int k = 0; k < 10; k++) {
                NamedStreams x = weighted();
                Due.is("weight(" + k + ", " + w + ")", x.weight(k, w), -1);
                Due.is("pick as before", x.pick(0, 0, 0), 2);
            }
        }
    }

    private static void pickBadPath() {
        Due.sentence("BAD: PATH");
        for (int path : Due.wrongNumbers(1)) {
            Due.is("path " + path, weighted().pick(0, path, 0), -1);
            Due.is("path " + path + ", ZERO, too", fresh().pick(0, path, 0), -1);
            NamedStreams great = weighted();
            great.weight(0, MOST);
            Due.is("path " + path + ", GREAT, too", great.pick(0, path, 0), -1);
        }
    }

    private static void pickBadPlace() {
        Due.sentence("BAD: PATH, c");
        for (int c : WRONG_PLACES) {
            Due.is("c = " + c, weighted().pick(0, 0, c), -1);
            Due.is("c = " + c + ", ZERO, too", fresh().pick(0, 0, c), -1);
            NamedStreams great = weighted();
            great.weight(0, MOST);
            Due.is("c = " + c + ", GREAT, too", great.pick(0, 0, c), -1);
        }
        Due.is("c = 0", weighted().pick(0, 0, 0), 2);
        Due.is("c = " + LAST, weighted().pick(0, 0, LAST), 2);
    }

    private static void pickZero() {
        Due.sentence("ZERO");
        NamedStreams x = fresh();
        Due.is("pick of weights of 0", x.pick(0, 0, 0), -4);
        x.weight(9, 1);
        x.weight(9, 0);
        Due.is("pick of weights of 0 anew", x.pick(0, 0, 0), -4);
    }

    private static void pickGreat() {
        Due.sentence("GREAT");
        NamedStreams x = fresh();
        x.weight(9, MOST);
        Due.is("pick of the greatest", x.pick(0, 0, 0), 9);
        x.weight(0, 1);
        Due.is("pick of 1 more", x.pick(0, 0, 0), -5);
        x.weight(9, MOST - 1);
        Due.holds("pick of the greatest anew", x.pick(0, 0, 0) >= 0);
    }

    // ---- promise 10

    private static void permutedNumbers() {
        Due.sentence("Number k (0 to n - 1) of a PERMUTATION.");
        NamedStreams x = fresh();
        for (int n : new int[] {1, 2, 39, 40}) {
            int sum = 0;
            for (int k = 0; k < n; k++) {
                sum += x.permuted(0, 0, 0, n, k);
            }
            Due.is("sum of the numbers of " + n, sum, n * (n - 1) / 2);
        }
    }

    private static void permutedBadPath() {
        Due.sentence("BAD: PATH");
        for (int path : Due.wrongNumbers(1)) {
            Due.is("path " + path, fresh().permuted(0, path, 0, 5, 0), -1);
            Due.is("path " + path + ", n = 1", fresh().permuted(0, path, 0, 1, 0), -1);
        }
    }

    private static void permutedBadPlace() {
        Due.sentence("BAD: PATH, c");
        for (int c : WRONG_PLACES) {
            Due.is("c = " + c, fresh().permuted(0, 0, c, 5, 0), -1);
            Due.is("c = " + c + ", n = 40", fresh().permuted(0, 0, c, 40, 0), -1);
            Due.is("c = " + c + ", n = 1", fresh().permuted(0, 0, c, 1, 0), -1);
        }
    }

    private static void permutedBeyondTheLastPlace() {
        Due.sentence("c (c + n above 2147483647, too)");
        for (int n = 1; n <= 40; n++) {
            NamedStreams x = fresh();
            Due.holds("c + n = 2147483647, n = " + n, x.permuted(0, 0, LAST - n, n, n - 1) >= 0);
            Due.is("c + n = 2147483648, n = " + n, x.permuted(0, 0, LAST - n + 1, n, 0), -1);
            Due.is("c = 2147483647, n = " + n, x.permuted(0, 0, LAST, n, 0), -1);
        }
    }

    private static void permutedBadSize() {
        Due.sentence("n");
        for (int n : new int[] {0, -1, -40, 41, 42, 64, Integer.MIN_VALUE, Integer.MAX_VALUE}) {
            Due.is("n = " + n, fresh().permuted(0, 0, 0, n, 0), -1);
            Due.is("n = " + n + ", k = n - 1", fresh().permuted(0, 0, 0, n, n - 1), -1);
        }
        Due.holds("n = 40", fresh().permuted(0, 0, 0, 40, 39) >= 0);
    }

    private static void permutedBadNumber() {
        Due.sentence("k");
        for (int n : new int[] {1, 2, 5, 39, 40}) {
            for (int k : new int[] {-1, n, n + 1, Integer.MIN_VALUE, Integer.MAX_VALUE}) {
                Due.is("n = " + n + ", k = " + k, fresh().permuted(0, 0, 0, n, k), -1);
            }
        }
        Due.is("n = 0, k = -1", fresh().permuted(0, 0, 0, 0, -1), -1);
    }

    // ---- promise 11

    private static void triesOfNone() {
        Due.sentence("0: none was");
        NamedStreams x = fresh();
        Due.is("tries() at first", x.tries(), 0);
        x.word(0, 0, 0);
        x.key(0);
        x.span(0, 0, 0, 0);
        x.span(0, 0, 0, -1);
        x.fraction(0, 0, 0, 0, 0);
        x.fraction(0, 0, 0, 2, 1);
        x.pick(0, 0, 0);
        x.permuted(0, 0, 0, 1, 0);
        x.permuted(0, 0, 0, 0, 0);
        x.counted(3, 3, 0);
        Due.is("tries() behind what draws nothing", x.tries(), 0);
    }

    private static void triesStayBehindRefusals() {
        Due.sentence("TRIES of the latest span(), fraction() that was not BAD or ZERO");
        // its first word is beyond the bound of 3
        NamedStreams x = Crafted.withFirstWord(-1);
        x.open(0, 0);
        x.span(0, 0, 0, 3);
        Due.is("tries()", x.tries(), 2);
        x.span(0, 0, 0, 0);
        Due.is("tries() behind a span that is ZERO", x.tries(), 2);
        x.span(0, 1, 0, 5);
        Due.is("tries() behind a span that is BAD", x.tries(), 2);
        x.fraction(0, 0, 0, 0, 0);
        Due.is("tries() behind a fraction that is ZERO", x.tries(), 2);
        x.fraction(0, 0, 0, 9, 5);
        Due.is("tries() behind a fraction that is BAD", x.tries(), 2);
        x.pick(0, 0, 0);
        x.nextPick(0);
        Due.is("tries() behind picks that are ZERO", x.tries(), 2);
        x.weight(0, MOST);
        x.weight(1, MOST);
        x.pick(0, 0, 0);
        x.nextPick(0);
        Due.is("tries() behind picks that are GREAT", x.tries(), 2);
        x.next(0, 0);
        Due.is("tries() behind a next that is ZERO", x.tries(), 2);
        x.next(1, 5);
        x.next(0, -5);
        Due.is("tries() behind nexts that are BAD", x.tries(), 2);
        x.permuted(0, 0, 0, 5, 5);
        Due.is("tries() behind a permutation that is BAD", x.tries(), 2);
        x.fraction(0, 0, 0, 5, 5);
        Due.is("tries() behind a fraction without a bit", x.tries(), 0);
    }

    private static void triesOfOtherCalls() {
        Due.sentence("of those that other calls made, the last one, too");
        NamedStreams x = Crafted.withFirstWord(-1);
        x.open(0, 0);
        x.weight(7, 3);
        x.pick(0, 0, 0);
        Due.is("tries() behind pick", x.tries(), 2);
        x.fraction(0, 0, 0, 0, 5);
        x.keep(0, 0);
        x.next(0, 3);
        Due.is("tries() behind next", x.tries(), 2);
        x.fraction(0, 0, 0, 0, 5);
        x.back(0);
        x.nextPick(0);
        Due.is("tries() behind nextPick", x.tries(), 2);
        // the first span of a permutation of 3 has 2 words here, its last one has 1
        NamedStreams y = Crafted.withWord(0, 64, -1);
        y.span(0, 0, 2, 3);
        Due.is("tries() of the first span", y.tries(), 2);
        y.permuted(0, 0, 0, 3, 0);
        Due.is("tries() behind permuted", y.tries(), 1);
    }

    // ---- promise 12

    private static void statusAheadOfAny() {
        Due.sentence("(and ahead of any)");
        NamedStreams x = new NamedStreams(0);
        Due.is("status() at first", x.status(), 0);
        x.path();
        x.span(0, 0, 0, 5);
        x.next(0, 0);
        Due.is("status() behind other calls that are refused", x.status(), 0);
    }

    private static void statusBehindKeyAndWord() {
        Due.sentence("0 behind a key(), word() that told something (and ahead of any), else BAD.");
        NamedStreams x = fresh();
        x.key(1);
        Due.is("status() behind a key of none", x.status(), -1);
        x.key(0);
        Due.is("status() behind a key", x.status(), 0);
        x.word(0, 1, 0);
        Due.is("status() behind a word of none", x.status(), -1);
        x.word(0, 0, 0);
        Due.is("status() behind a word", x.status(), 0);
        x.word(0, -1, 0);
        x.key(0);
        Due.is("status() behind a key behind a word of none", x.status(), 0);
        x.key(-1);
        Due.is("status() behind a key of none", x.status(), -1);
        Due.is("status() behind status()", x.status(), -1);
    }

    private static void statusStaysBehindOthers() {
        Due.sentence("0 behind a key(), word() that told something (and ahead of any), else BAD.");
        NamedStreams x = fresh();
        x.key(5);
        x.part(1);
        x.path();
        x.span(0, 0, 0, 5);
        x.fraction(0, 0, 0, 1, 5);
        x.open(0, 0);
        x.next(0, 5);
        x.tries();
        Due.is("status() stays BAD behind calls that tell something", x.status(), -1);
        x.key(0);
        x.path();
        x.span(0, 9, 0, 5);
        x.fraction(0, 0, 0, 0, 0);
        x.pick(0, 0, 0);
        x.open(0, 9);
        x.next(9, 5);
        x.told(9, 9);
        Due.is("status() stays 0 behind calls that are refused", x.status(), 0);
    }
}
