import java.io.IOException;
import java.nio.file.Path;

/** Each sentence of DOC.md, by tests of its own. Its second argument is that file. */
public final class SentencesTest {
    public static void main(String[] args) throws IOException {
        Path file = Path.of(args.length > 1 ? args[1] : "../shared/DOC.md");
        Sentences.document = new Document(file);
        TermSentences.run();
        TapeSentences.run();
        SideSentences.run();
        DiscSentences.run();
        RoyaltySentences.run();
        Sentences.document.end();
        Due.end("SentencesTest");
    }
}
