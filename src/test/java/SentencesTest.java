/** Each sentence of the terms and of the promises 1 to 29, with a test of its own. */
public final class SentencesTest {
    public static void main(String[] args) throws Exception {
        Sentences s = new Sentences();
        RefusalSentences.all(s);
        RowSentences.all(s);
        TextSentences.all(s);
        DaySentences.all(s);
        ForetoldSentences.all(s);
        AskedSentences.all(s);
        s.end();
    }
}
