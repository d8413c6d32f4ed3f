import java.io.IOException;
import java.io.UncheckedIOException;
import java.nio.file.Files;
import java.nio.file.Path;

/** The document as one line of words, so that a quoted sentence is found wherever its lines break. */
final class Document {
    static final String TEXT = read();

    private Document() {
    }

    private static String read() {
        try {
            return plain(Files.readString(Path.of("../shared/DOC.md")));
        } catch (IOException missing) {
            throw new UncheckedIOException(missing);
        }
    }

    static String plain(String text) {
        return text.replaceAll("```\\w*", " ").replaceAll("=======+", " ").replaceAll("\\s+", " ").trim();
    }

    /** Where a quote begins; -1, if it is not there or not there alone. */
    static int placeOf(String quote) {
        String words = plain(quote);
        int at = TEXT.indexOf(words);
        return at == TEXT.lastIndexOf(words) ? at : -1;
    }
}
