/** Each sentence of the document that names a boundary case, quoted, with checks that fail if it is broken. */
public final class EdgeTests {
    private EdgeTests() {
    }

    public static void main(String[] args) {
        TrayEdges.run();
        TextEdges.run();
        RoundTextEdges.run();
        GameEdges.run();
        KnowledgeEdges.run();
        ForecastEdges.run();
        BestEdges.run();
        RoundEdges.run();
        StatusEdges.run();
        Checks.allIsQuoted();
        Checks.finish("EdgeTests");
    }
}
