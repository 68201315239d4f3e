import java.io.IOException;

/** Each sentence of the document by itself, from its first line: the edges that it names, on both sides. */
public final class EdgesTest {
    private EdgesTest() {
    }

    public static void main(String[] args) throws IOException {
        Edges edges = new Edges();
        FaceEdges.test(edges);
        ConventionEdges.test(edges);
        WordEdges.test(edges);
        ProblemEdges.test(edges);
        ConditionEdges.test(edges);
        ArrangementEdges.test(edges);
        TextEdges.test(edges);
        AmongEdges.test(edges);
        TripleEdges.test(edges);
        SavingEdges.test(edges);
        edges.finish();
    }
}
