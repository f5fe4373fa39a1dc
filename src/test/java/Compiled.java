import java.io.IOException;
import java.net.URL;
import java.net.URLClassLoader;
import java.nio.file.Files;
import java.nio.file.Path;
import java.util.Comparator;
import java.util.stream.Stream;

/** A class that a test writes, compiled in a directory of its own, which is gone after close. */
final class Compiled implements AutoCloseable {
    final Class<?> type;
    private final Path place;
    private final URLClassLoader loader;

    /** Other classes than those of the text come from the parent, or, without one, from the Java library alone. */
    Compiled(String name, String text, ClassLoader parent)
            throws IOException, InterruptedException, ClassNotFoundException {
        place = Files.createTempDirectory("compiled");
        Path file = Files.writeString(place.resolve(name + ".java"), text);
        Process compiling = new ProcessBuilder("javac", "-cp", System.getProperty("java.class.path"), "-d",
                place.toString(), file.toString()).inheritIO().start();
        Check.same("compiling a written " + name, compiling.waitFor(), 0);
        loader = new URLClassLoader(new URL[] {place.toUri().toURL()}, parent);
        type = loader.loadClass(name);
    }

    @Override
    public void close() throws IOException {
        loader.close();
        try (Stream<Path> files = Files.walk(place)) {
            for (Path file : files.sorted(Comparator.reverseOrder()).toList()) {
                Files.delete(file);
            }
        }
    }
}
