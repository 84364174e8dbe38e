import java.nio.file.Path;

/** Each sentence of the document has calls here that hold it: just inside its bounds, and just outside of them. */
public final class EdgesTest {
    public static void main(String[] args) throws Exception {
        Edges doc = new Edges(Path.of("../shared/DOC.md"));
        EdgesOfNames.tell(doc);
        EdgesOfDeals.tell(doc);
        EdgesOfAsked.tell(doc);
        EdgesOfTapes.tell(doc);
        EdgesOfAnswers.tell(doc);
        doc.end();
    }
}
