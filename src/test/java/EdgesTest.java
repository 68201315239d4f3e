import java.io.IOException;

/** Each sentence of the promises 1 to 34 by itself: the edges that it names, on both sides. */
public final class EdgesTest {
    private EdgesTest() {
    }

    public static void main(String[] args) throws IOException {
        Edges edges = new Edges();
        ProblemEdges.test(edges);
        ConditionEdges.test(edges);
        ArrangementEdges.test(edges);
        TextEdges.test(edges);
        AmongEdges.test(edges);
        TripleEdges.test(edges);
        SavingEdges.test(edges);
        edges.finish();
    }
}
