/** The document's sentences, each by itself, promise by promise. */
public final class SentencesTest {
    public static void main(String[] args) throws Exception {
        TextSentences.all();
        WardSentences.all();
        MorningSentences.all();
        WhoSentences.all();
        KindsSentences.all();
        Sentence.lookAtDocument();
        Check.end("SentencesTest");
    }
}
