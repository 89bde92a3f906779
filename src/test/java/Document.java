import java.io.IOException;
import java.nio.file.Files;
import java.nio.file.Path;

/** The texts that tests look into: the document, the program's source and README.md. */
final class Document {
    private static final Path DOCUMENT = Path.of("..", "shared", "DOC.md");
    private static final Path SOURCE = Path.of("src", "main", "java", "ClinicBooks.java");
    private static final Path README = Path.of("README.md");

    private Document() {
    }

    static boolean isThere() {
        return Files.exists(DOCUMENT);
    }

    static String text() throws IOException {
        return Files.readString(DOCUMENT);
    }

    static String source() throws IOException {
        return Files.readString(SOURCE);
    }

    static String readme() throws IOException {
        return Files.readString(README);
    }
}
