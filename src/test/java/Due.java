/** Counts and prints the answers that are not the ones that are due. */
final class Due {
    private static int wrong = 0;
    private static String sentence = "";

    private Due() {
    }

    /** The words of the document that the answers from here on are asked for. */
    static void sentence(String words) {
        sentence = "\"" + words + "\": ";
    }

    static void is(String call, long got, long want) {
        if (got != want) {
            wrong++;
            System.out.println(sentence + call + " answered " + got + ", due is " + want);
        }
    }

    static void holds(String what, boolean holds) {
        if (!holds) {
            wrong++;
            System.out.println(sentence + "does not hold: " + what);
        }
    }

    static int wrongSoFar() {
        return wrong;
    }

    static void end() {
        System.out.println(wrong == 0 ? "all answers are as due" : wrong + " answers are not as due");
        if (wrong != 0) {
            System.exit(1);
        }
    }

    /** An object with one path, number 0, of these parts. */
    static NamedStreams withPath(long seed, long... parts) {
        NamedStreams x = new NamedStreams(seed);
        addPath(x, parts);
        return x;
    }

    static int addPath(NamedStreams x, long... parts) {
        for (long part : parts) {
            x.part(part);
        }
        return x.path();
    }

    /** An object with all 24 paths, path i of the one part i. */
    static NamedStreams withAllPaths() {
        NamedStreams x = new NamedStreams(24);
        for (int i = 0; i < 24; i++) {
            addPath(x, i);
        }
        return x;
    }

    /** Numbers that no path and no stream has while there are so many. */
    static int[] wrongNumbers(int count) {
        return new int[] {-1, count, count + 1, 24, Integer.MIN_VALUE, Integer.MAX_VALUE};
    }

    /** Puts a stream on to a place that it has not passed. */
    static void moveTo(NamedStreams x, int stream, int place) {
        int left = place - x.told(stream, 1);
        while (left > 1000000000) {
            x.skip(stream, 1000000000);
            left -= 1000000000;
        }
        x.skip(stream, left);
    }
}
