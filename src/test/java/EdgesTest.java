/** Every boundary case that the document names, promise by promise. */
public final class EdgesTest {
    public static void main(String[] args) {
        Edge e = new Edge();
        new WindowEdges(e).all();
        new TextEdges(e).all();
        new DeedsEdges(e).all();
        new LightEdges(e).all();
        new SeenEdges(e).all();
        new KindsEdges(e).all();
        e.end();
    }
}
