import java.util.ArrayList;
import java.util.List;

/** Tests of one sentence each: its promise, its words, what of it is tested. */
final class Edges {
    static final int BAD = ShakenParcels.BAD, NO = ShakenParcels.NO, FULL = ShakenParcels.FULL, NONE = ShakenParcels.NONE;
    static final int LEAST = Integer.MIN_VALUE, MOST = Integer.MAX_VALUE;

    /** Two worlds that nothing tells apart. */
    static final String TWINS = "t5,0,0,1;t5,0,0,1;p0,0,1;i0,0;";
    /** Two worlds that the scale tells apart. */
    static final String PAIR = "t1,0,0,1;t2,0,0,1;p0,0,1;i0,0;";
    /** Three parcels, of which 0 and 1 can be changed: 12 worlds. */
    static final String FOUR = "t1,0,1,1;t2,1,2,1;t3,2,3,1;t4,3,4,1;p1,0,1;p2,1,1;p3,0,2;i0,0;i1,1;i2,2;i2,3;";
    /** All 8 things in all 4 parcels: 2520 worlds. */
    static final String EIGHT = "t1,0,0,9;".repeat(8) + "p0,0,2;p0,0,2;p0,1,2;p9,1,2;i0,0;i0,1;i1,2;i1,3;i2,4;i2,5;i3,6;i3,7;";

    interface Body {
        void run(Checks due);
    }

    private record Edge(int promise, String words, String what, Body body) {
        String name() {
            return "promise " + promise + " \"" + words + "\": " + what;
        }
    }

    private final List<Edge> list = new ArrayList<>();

    static Edges all() {
        Edges edges = new Edges();
        TextEdges.tell(edges);
        FaultEdges.tell(edges);
        LayEdges.tell(edges);
        TreeEdges.tell(edges);
        TrialEdges.tell(edges);
        MayBeEdges.tell(edges);
        ToTryEdges.tell(edges);
        WhoEdges.tell(edges);
        KeptEdges.tell(edges);
        RefusedEdges.tell(edges);
        return edges;
    }

    void edge(int promise, String words, String what, Body body) {
        list.add(new Edge(promise, words, what, body));
    }

    int size() {
        return list.size();
    }

    List<String> names() {
        return list.stream().map(Edge::name).toList();
    }

    /** Runs each of them by itself; answers the names of those that fail. */
    List<String> failing(Checks all) {
        return failing(all, list);
    }

    private static List<String> failing(Checks all, List<Edge> some) {
        List<String> names = new ArrayList<>();
        for (Edge edge : some) {
            Checks due = new Checks(edge.name() + ": ");
            try {
                edge.body.run(due);
            } catch (Throwable thrown) {
                due.holds("threw " + thrown + ", which", false);
            }
            if (due.failed()) {
                names.add(edge.name());
            }
            due.addTo(all);
        }
        return names;
    }

    /** Whether one of a promise, whose name has a part like that, fails. */
    static boolean oneFails(int promise, String part) {
        List<Edge> some = all().list.stream().filter(edge -> edge.promise == promise && edge.name().contains(part)).toList();
        return !failing(new Checks(), some).isEmpty();
    }

    /** Each edge quotes the document, and no word of the document is left without one. */
    void holdAgainst(Document document, Checks checks) {
        for (Edge edge : list) {
            checks.holds("the document says once: " + edge.name(), document.quote(edge.promise, edge.words));
        }
        for (int n = 1; n <= Document.PROMISES; n++) {
            int promise = n;
            checks.holds("edges of promise " + n, list.stream().anyMatch(edge -> edge.promise == promise));
        }
        for (String rest : document.unquoted()) {
            checks.holds("a test for: " + rest, false);
        }
        checks.due("names that are alike", list.size() - names().stream().distinct().count(), 0);
    }

    // ---- what the edges share

    static long[] all(long... got) {
        return got;
    }

    static long[] counts(ShakenParcels x) {
        return all(x.count(0), x.count(1), x.count(2), x.count(3), x.count(4), x.count(5), x.count(6));
    }
}
