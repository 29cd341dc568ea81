import java.io.IOException;
import java.io.UncheckedIOException;
import java.nio.file.Files;
import java.nio.file.Path;

/** The document, of which tests name the sentences that they are for. */
final class Document {
    private static final String[] SECTIONS = read().split("(?m)^## ");

    private Document() {
    }

    private static String read() {
        try {
            return Files.readString(Path.of("../shared/DOC.md"));
        } catch (IOException e) {
            throw new UncheckedIOException(e);
        }
    }

    /** Whether the section with this head says these words. */
    static boolean says(String head, String words) {
        for (String section : SECTIONS) {
            boolean isHead = section.startsWith(head + "\n") || section.startsWith(head + ":");
            if (isHead && section.contains(words)) {
                return true;
            }
        }
        return false;
    }
}
