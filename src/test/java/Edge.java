import java.io.IOException;
import java.io.UncheckedIOException;
import java.nio.file.Files;
import java.nio.file.Path;

/** A sentence of the document that names a boundary case, with the test that is its own. */
final class Edge {
    private static final Path DOCUMENT = Path.of("../shared/DOC.md");
    private static final String TEXT = text();

    private Edge() {
    }

    /** The sentence is told in the document's own words: so none is asked that is not there. */
    static void of(String sentence, Runnable test) {
        int wrong = Check.wrongs();
        int asked = Check.asked();
        test.run();
        Check.holds("something is asked of: " + sentence, Check.asked() > asked);
        Check.holds("the document says: " + sentence, TEXT.isEmpty() || TEXT.contains(sentence));
        if (Check.wrongs() > wrong) {
            System.out.println("    does not hold: \"" + sentence + "\"");
        }
    }

    /** Without a document at hand the sentences are taken as they are told here. */
    private static String text() {
        if (!Files.isReadable(DOCUMENT)) {
            return "";
        }
        try {
            return Files.readString(DOCUMENT).replaceAll("\\s+", " ");
        } catch (IOException e) {
            throw new UncheckedIOException(e);
        }
    }
}
