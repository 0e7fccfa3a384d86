import java.io.IOException;

/** The document sentence by sentence: each one, its edges and what it refuses, has checks of its own. */
public final class SentenceTest {
    public static void main(String[] args) throws IOException {
        Doc.open();
        TextSentences.play();
        TapeSentences.play();
        ChoirSentences.play();
        CallSentences.play();
        HumSentences.play();
        BargainSentences.play();
        Doc.close();
        Check.end("SentenceTest");
    }
}
