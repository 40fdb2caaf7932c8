import java.io.IOException;

/** Each sentence of the document that names an edge, with a test of its own. */
public final class SentencesTest {
    public static void main(String[] args) throws IOException {
        OfferSentences.tell();
        FetchSentences.tell();
        ReapSentences.tell();
        StepsSentences.tell();
        CallsSentences.tell();
        StateSentences.tell();
        Sentence.compareWithDocument();
        Due.close("SentencesTest");
    }
}
