/** Each sentence of the document's terms and promises, with its boundary cases, by Doc. */
public final class SentencesTest {
    private SentencesTest() {
    }

    public static void main(String[] args) {
        TermsEdges.run();
        BoxesEdges.run();
        TextsEdges.run();
        LooksEdges.run();
        Doc.allEnded();
        Check.end("SentencesTest");
    }
}
