/** Each sentence of the document that names a boundary case, with tests of its own. */
public final class EdgesTest {
    public static void main(String[] args) {
        Check check = new Check("EdgesTest");
        Edges edges = new Edges(check);
        Twins twins = new Twins(check);
        TermsOneEdges.run(edges);
        TermsTwoEdges.run(edges);
        TermsThreeEdges.run(edges);
        CallsOneEdges.run(edges, twins);
        CallsTwoEdges.run(edges, twins);
        edges.end();
        check.end();
    }
}
