import java.util.List;

/** Each sentence of the document that names an edge, by a test of its own that names its promise. */
public final class EdgesTest {
    private EdgesTest() { }

    public static void main(String[] args) throws Exception {
        Edges edges = Edges.all();
        Checks checks = new Checks();
        List<String> failing = edges.failing(checks);
        edges.holdAgainst(new Document(), checks);
        checks.due("edges that fail", failing.size(), 0);
        System.out.println(edges.size() + " edges");
        checks.end();
    }
}
