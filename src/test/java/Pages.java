import java.io.IOException;
import java.io.UncheckedIOException;
import java.nio.file.Files;
import java.nio.file.Path;
import java.util.List;

/** The written pages that tests look into; .ci/run tells where the project lies, otherwise it is the place of the call. */
final class Pages {
    private static final Path ROOT = Path.of(System.getProperty("project.root", "."));

    private Pages() {
    }

    static Path at(String path) {
        return ROOT.resolve(path);
    }

    static String text(String path) {
        try {
            return Files.readString(at(path));
        } catch (IOException e) {
            throw new UncheckedIOException(e);
        }
    }

    /** The lines of the first Java example of the page. */
    static List<String> javaExample(String path) {
        String text = text(path);
        int start = text.indexOf("```java\n");
        int end = start < 0 ? -1 : text.indexOf("\n```", start);
        if (end < 0) throw new AssertionError(path + " has no Java example");
        return text.substring(start, end).lines().skip(1).toList();
    }
}
