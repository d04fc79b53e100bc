/** For each sentence of the document that names a boundary case a test of its own. */
public final class EdgesTest {
    public static void main(String[] args) {
        TermsEdges.all();
        NotesEdges.all();
        RatiosEdges.all();
        ChangesEdges.all();
        ChoiceEdges.all();
        PlacesEdges.all();
        TextEdges.all();
        PureEdges.all();
        System.out.println(Sentences.brokenCount() == 0 ? "all " + Sentences.count() + " sentences hold"
            : Sentences.brokenCount() + " of " + Sentences.count() + " sentences are broken");
        if (Sentences.brokenCount() != 0) {
            System.exit(1);
        }
    }
}
