import java.net.URL;
import java.net.URLClassLoader;
import java.nio.file.Files;
import java.nio.file.Path;
import java.util.Comparator;
import java.util.stream.Stream;
import javax.tools.ToolProvider;

/** Classes that a test writes, compiles and loads itself. */
final class Compiled {
    private Compiled() {
    }

    /** The class of this name and text; what it uses is looked for by the parent first. */
    static Class<?> of(String name, String text, Path folder, ClassLoader parent) throws Exception {
        Files.createDirectories(folder);
        Path copy = folder.resolve(name + ".java");
        Files.writeString(copy, text);
        int failed = ToolProvider.getSystemJavaCompiler().run(null, null, null, "-d", folder.toString(),
            "-cp", System.getProperty("java.class.path"), copy.toString());
        Due.is("javac of " + name, failed, 0);
        URL[] where = {folder.toUri().toURL()};
        try (URLClassLoader loader = new URLClassLoader(where, parent)) {
            Class<?> made = loader.loadClass(name);
            // the loader is shut then, so the classes inside are loaded now
            for (Class<?> inside : made.getDeclaredClasses()) {
                Class.forName(inside.getName(), true, loader);
            }
            return made;
        }
    }

    static void delete(Path folder) throws Exception {
        try (Stream<Path> all = Files.walk(folder)) {
            for (Path path : all.sorted(Comparator.reverseOrder()).toList()) {
                Files.delete(path);
            }
        }
    }
}
