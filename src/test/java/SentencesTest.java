import java.io.IOException;
import java.nio.file.Path;

/**
 * The document sentence by sentence: what each says of the edges (too small, too large, empty, full, come round,
 * refused) is tested under its own words, and every sentence has a test.
 */
public final class SentencesTest {
    private SentencesTest() {
    }

    public static void main(String[] args) throws IOException {
        Doc.open(Path.of(args[1]));
        HeadSentences.all();
        MountSentences.all();
        MinuteSentences.all();
        TriedSentences.all();
        SeenSentences.all();
        DrawSentences.all();
        Doc.end();
        Check.end("SentencesTest");
    }
}
