import java.nio.file.Path;

/** Each sentence of the document that names an edge, with a test of its own that quotes it. */
public final class EdgesTest {
    private EdgesTest() {
    }

    public static void main(String[] args) throws Exception {
        Checks.within(300);
        Doc.open(Path.of(args[1], "DOC.md"));
        TextEdges.run();
        LawEdges.run();
        LifeEdges.run();
        AskedEdges.run();
        YearEdges.run();
        RefusalEdges.run();
        Doc.allIsQuoted();
        Checks.end("EdgesTest");
    }
}
