import java.io.IOException;

/** Each sentence of the document, where it has an edge, with a test of its own. */
public final class EdgesTest {
    public static void main(String[] args) throws IOException {
        Checks checks = new Checks();
        Document document = new Document(checks);
        new SeaEdges(document).all();
        new TextEdges(document).all();
        new WayEdges(document).all();
        new SignEdges(document).all();
        new RowEdges(document).all();
        new RefusalEdges(document).all();
        document.lookForUnquoted();
        checks.end();
    }
}
