/** Counts and prints the answers that are not the ones that are due. */
final class Due {
    private static int wrong = 0;

    private Due() {
    }

    static void is(String call, long got, long want) {
        if (got != want) {
            wrong++;
            System.out.println(call + " answered " + got + ", due is " + want);
        }
    }

    static void holds(String what, boolean holds) {
        if (!holds) {
            wrong++;
            System.out.println("does not hold: " + what);
        }
    }

    static int wrongSoFar() {
        return wrong;
    }

    static void end() {
        System.out.println(wrong == 0 ? "all answers are as due" : wrong + " answers are not as due");
        if (wrong != 0) {
            System.exit(1);
        }
    }

    /** An object with one path, number 0, of these parts. */
    static NamedStreams withPath(long seed, long... parts) {
        NamedStreams x = new NamedStreams(seed);
        addPath(x, parts);
        return x;
    }

    static int addPath(NamedStreams x, long... parts) {
        for (long part : parts) {
            x.part(part);
        }
        return x.path();
    }
}
