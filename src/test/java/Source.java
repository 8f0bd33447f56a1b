import java.io.IOException;
import java.io.UncheckedIOException;
import java.nio.file.Files;
import java.nio.file.Path;

/** The class as it is written: some sentences of the document, and most rules, are about its text. */
final class Source {
    private static final Path FILE = Path.of("src/main/java/KeyRows.java");

    private Source() {
    }

    static String text() {
        try {
            return Files.readString(FILE);
        } catch (IOException e) {
            throw new UncheckedIOException(e);
        }
    }

    /** Without its comments, and without what stands in texts and characters. */
    static String code() {
        return text().replaceAll("(?s)/\\*.*?\\*/", " ").replaceAll("//[^\n]*", " ")
            .replaceAll("\"(\\\\.|[^\"\\\\\n])*\"", "\"\"").replaceAll("'(\\\\.|[^'\\\\\n])'", "' '");
    }
}
