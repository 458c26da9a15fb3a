import java.lang.reflect.Method;
import java.net.URL;
import java.net.URLClassLoader;
import java.nio.file.Files;
import java.nio.file.Path;
import java.util.Comparator;
import java.util.List;
import java.util.stream.Stream;
import javax.tools.ToolProvider;

/**
 * NONE of promises 6, 7, 9, 14 and 15. No place of 32 words is known that comes to NONE, so these are
 * asked of a copy of the class whose places have fewer words and that is the same otherwise.
 */
public final class NoneTest {
    private static final long SEED = 4L;
    private static final long KEY = Model.keyOf(List.of(21L));
    /** A third of all words is beyond the greatest multiple of this. */
    private static final long THIRD = 6148914691236517206L;

    private final Class<?> face;
    private final Object x;

    private NoneTest(Class<?> face) throws Exception {
        this.face = face;
        this.x = face.getConstructor(long.class).newInstance(SEED);
        ask("part", 21L);
        ask("path");
    }

    public static void main(String[] args) throws Exception {
        Path folder = Files.createTempDirectory("none");
        try {
            Class<?> two = copyWithWords(2, folder.resolve("two"));
            spans(new NoneTest(two));
            picks(new NoneTest(two));
            nexts(new NoneTest(two));
            nextPicks(new NoneTest(two));
            fractions(new NoneTest(copyWithWords(1, folder.resolve("one"))));
        } finally {
            delete(folder);
        }
        Due.end();
    }

    private static Class<?> copyWithWords(int words, Path folder) throws Exception {
        String told = "WORDS_OF_PLACE = 32;";
        String text = Files.readString(Path.of("src/main/java/NamedStreams.java"));
        Due.is("places where the number of words is told", text.split(told, -1).length - 1, 1);
        Files.createDirectories(folder);
        Path copy = folder.resolve("NamedStreams.java");
        Files.writeString(copy, text.replace(told, "WORDS_OF_PLACE = " + words + ";"));
        int failed = ToolProvider.getSystemJavaCompiler().run(null, null, null, "-d", folder.toString(), copy.toString());
        Due.is("javac", failed, 0);
        URL[] where = {folder.toUri().toURL()};
        try (URLClassLoader loader = new URLClassLoader(where, ClassLoader.getPlatformClassLoader())) {
            Class<?> face = loader.loadClass("NamedStreams");
            // the loader is shut then, so the classes inside are loaded now
            for (Class<?> inside : face.getDeclaredClasses()) {
                Class.forName(inside.getName(), true, loader);
            }
            return face;
        }
    }

    private static void delete(Path folder) throws Exception {
        try (Stream<Path> all = Files.walk(folder)) {
            for (Path path : all.sorted(Comparator.reverseOrder()).toList()) {
                Files.delete(path);
            }
        }
    }

    private long ask(String name, Object... arguments) throws Exception {
        for (Method method : face.getMethods()) {
            if (method.getName().equals(name)) {
                return ((Number) method.invoke(x, arguments)).longValue();
            }
        }
        throw new IllegalArgumentException(name);
    }

    /** {the span of THIRD, its tries} at place c of two words. */
    private static long[] spanOfTwo(long c) {
        for (int i = 0; i < 2; i++) {
            long word = Model.wordOf(SEED, 0, KEY, 2 * c + i);
            if (Long.compareUnsigned(word, 2 * THIRD) < 0) {
                return new long[] {Long.remainderUnsigned(word, THIRD), i + 1};
            }
        }
        return new long[] {-3, 2};
    }

    private static void spans(NoneTest test) throws Exception {
        int none = 0;
        for (int c = 0; c < 100; c++) {
            long[] due = spanOfTwo(c);
            Due.is("span at " + c, test.ask("span", 0L, 0, c, THIRD), due[0]);
            Due.is("tries() at " + c, test.ask("tries"), due[1]);
            none += due[0] == -3 ? 1 : 0;
        }
        Due.holds("some spans are NONE", none > 0);
    }

    private static void picks(NoneTest test) throws Exception {
        test.ask("weight", 3, THIRD);
        for (int c = 0; c < 100; c++) {
            long[] due = spanOfTwo(c);
            Due.is("pick at " + c, test.ask("pick", 0L, 0, c), due[0] < 0 ? -3 : 3);
            Due.is("tries() at " + c, test.ask("tries"), due[1]);
        }
    }

    private static void nexts(NoneTest test) throws Exception {
        test.ask("open", 0L, 0);
        for (int place = 0; place < 100; place++) {
            long[] due = spanOfTwo(place);
            Due.is("next at " + place, test.ask("next", 0, THIRD), due[0]);
            Due.is("tries() at " + place, test.ask("tries"), due[1]);
            Due.is("place behind it", test.ask("told", 0, 1), place + 1);
        }
    }

    private static void nextPicks(NoneTest test) throws Exception {
        test.ask("open", 0L, 0);
        test.ask("weight", 9, THIRD);
        for (int place = 0; place < 100; place++) {
            long[] due = spanOfTwo(place);
            Due.is("nextPick at " + place, test.ask("nextPick", 0), due[0] < 0 ? -3 : 9);
            Due.is("place behind it", test.ask("told", 0, 1), place + 1);
        }
    }

    private static void fractions(NoneTest test) throws Exception {
        int none = 0;
        for (int c = 0; c < 100; c++) {
            long word = Model.wordOf(SEED, 0, KEY, c);
            // its digits are the word's 63 highest bits, again and again: only the last bit may differ
            long a = word >>> 1;
            boolean digit = a >>> 62 == 1;
            boolean bit = (word & 1) == 1;
            Due.is("fraction at " + c, test.ask("fraction", 0L, 0, c, a, Long.MAX_VALUE),
                bit == digit ? -3 : bit ? 0 : 1);
            Due.is("tries() at " + c, test.ask("tries"), 64);
            none += bit == digit ? 1 : 0;
        }
        Due.holds("some fractions are NONE", none > 0);
    }
}
