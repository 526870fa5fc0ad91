import java.io.IOException;
import java.net.URL;
import java.net.URLClassLoader;
import java.nio.file.Files;
import java.nio.file.Path;
import java.util.Comparator;
import java.util.List;
import java.util.stream.Stream;
import javax.tools.ToolProvider;

/** A class compiled while the tests run, in a directory of its own that goes when it is closed. */
final class Compiling implements AutoCloseable {
    final Class<?> made;
    private final Path dir;
    private final URLClassLoader loader;

    /** The parent knows what else the text uses; null, where the text stands for itself. */
    Compiling(String name, String text, ClassLoader parent)
            throws IOException, ClassNotFoundException {
        dir = Files.createTempDirectory("compiling");
        Path file = dir.resolve(name + ".java");
        Files.writeString(file, text);
        String known = System.getProperty("java.class.path");
        int code = ToolProvider.getSystemJavaCompiler().run(null, null, null,
                "-cp", parent == null ? dir.toString() : known,
                "-d", dir.toString(), file.toString());
        loader = new URLClassLoader(new URL[] {dir.toUri().toURL()}, parent);
        if (code != 0) {
            close();
            throw new IOException(name + " can't be compiled");
        }
        made = loader.loadClass(name);
    }

    @Override
    public void close() throws IOException {
        loader.close();
        try (Stream<Path> files = Files.walk(dir)) {
            List<Path> deepestFirst = files.sorted(Comparator.reverseOrder()).toList();
            for (Path file : deepestFirst) {
                Files.delete(file);
            }
        }
    }
}
