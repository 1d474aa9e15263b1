import java.io.IOException;
import java.nio.file.Files;
import java.nio.file.Path;

/** Sentences of the document, each with a test of its own. */
final class Doc {
    private static final Path DOCUMENT = Path.of("../shared/DOC.md");

    private static String text;

    private Doc() {
    }

    /** The sentence must stand in the document as it is quoted: a quote that is not there tests nothing. */
    static void says(String sentence, Check.Act test) {
        Check.within(sentence);
        if (!document().contains(sentence)) {
            Check.tell("this is not in " + DOCUMENT);
        }
        try {
            test.go();
        } catch (RuntimeException e) {
            Check.tell("threw " + e);
        }
        Check.within("");
    }

    /** The whole text, on one line. */
    static String document() {
        if (text == null) {
            try {
                text = Files.readString(DOCUMENT).replaceAll("\\s+", " ");
            } catch (IOException e) {
                throw new IllegalStateException(DOCUMENT + " can't be read", e);
            }
        }
        return text;
    }
}
