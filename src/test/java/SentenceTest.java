/** Each sentence of the document, from "What it is" to "Promise 36", with the edges that it names. */
public final class SentenceTest {
    public static void main(String[] args) {
        Sentences document = new Sentences();
        new WholeSentences(document).all();
        new LifeSentences(document).all();
        new FlowSentences(document).all();
        new CountSentences(document).all();
        new BoundSentences(document).all();
        new TextSentences(document).all();
        new HistorySentences(document).all();
        new FormPromises(document).all();
        new CountPromises(document).all();
        new DecodePromises(document).all();
        new SpacePromises(document).all();
        new TextPromises(document).all();
        document.end("SentenceTest");
    }
}
