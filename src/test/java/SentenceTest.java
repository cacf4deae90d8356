import java.io.IOException;
import java.nio.file.Files;
import java.nio.file.Path;

/**
 * For each sentence of the document that names a boundary case, a test of its own. A test begins with the section
 * and the words of its sentence, which are looked up in the document; at the end, words that no test quotes and that
 * are not told to name no boundary case are a failure.
 */
public final class SentenceTest {
    public static void main(String[] args) throws IOException {
        Checks checks = new Checks();
        Document document = new Document(Files.readString(Path.of(args[1])));
        new TermsSentences(checks, document).all();
        new MergeTermsSentences(checks, document).all();
        new CollectingSentences(checks, document).all();
        new MemorySentences(checks, document).all();
        new MergingSentences(checks, document).all();
        new RunsSentences(checks, document).all();
        new PredictionSentences(checks, document).all();
        new TextSentences(checks, document).all();
        new PastSentences(checks, document).all();
        checks.begin("sentences");
        for (String words : document.unquoted()) {
            checks.same("the test of \"" + words + "\"", 0, 1);
        }
        checks.end();
    }
}
