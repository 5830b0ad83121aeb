/** Every boundary case that the document names, promise by promise. */
public final class EdgesTest {
    public static void main(String[] args) throws Exception {
        Edges edges = new Edges();
        new TextEdges(edges).run();
        new CommandEdges(edges).run();
        new ByteEdges(edges).run();
        new PollEdges(edges).run();
        new DeviceEdges(edges).run();
        new LookEdges(edges).run();
        edges.end("EdgesTest");
    }
}
