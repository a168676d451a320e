import java.io.IOException;

/**
 * Each sentence of the document that names a boundary case, by its words: the last values that are taken, the first
 * that are refused, nothing told yet, all full, and refused calls that change nothing.
 */
public final class EdgesTest {
    private EdgesTest() {
    }

    public static void main(String[] args) throws IOException {
        Check check = new Check();
        Document document = new Document();
        Edges edges = new Edges(check, document);
        new EdgesOfTelling(edges).all();
        new EdgesOfLaws(edges).all();
        new EdgesOfCommand(edges).all();
        new EdgesOfMinds(edges).all();
        new EdgesOfOrders(edges).all();
        new EdgesOfSpans(edges).all();
        new EdgesOfMarks(edges).all();
        for (String words : document.unnamed()) {
            check.due("words of the document that no test names: " + words, 1, 0);
        }
        check.end("EdgesTest");
    }
}
