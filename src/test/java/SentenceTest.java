/** Each sentence of the Terms and of the promises, with tests of its own; none is left out. */
public final class SentenceTest {
    public static void main(String[] args) throws Exception {
        Doc.open();
        TextSentences.all();
        TermSentences.all();
        StateSentences.all();
        RowSentences.all();
        FormSentences.all();
        Doc.end();
        Check.end("SentenceTest");
    }
}
