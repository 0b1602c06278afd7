/** Each sentence of the Terms and of promises 1 to 47 by itself, at its bounds; none may be without a test. */
public final class EdgesTest {
    public static void main(String[] args) throws Exception {
        Edges edges = new Edges(new Document());
        new TermsEdges(edges).all();
        new RoomsEdges(edges).all();
        new HoursEdges(edges).all();
        new OneAndAllEdges(edges).all();
        new StovesEdges(edges).all();
        new WhoItWasEdges(edges).all();
        new TextsEdges(edges).all();
        new SheetsEdges(edges).all();
        new ImagesEdges(edges).all();
        edges.end();
    }
}
