import java.nio.file.Path;

/** Each sentence of the document that names an edge: what is too small, too large, empty, full or refused. */
public final class EdgeTest {
    private EdgeTest() { }

    public static void main(String[] args) throws Exception {
        Sheet sheet = new Sheet(Path.of(System.getProperty("document", "../shared/DOC.md")));
        new TermEdges(sheet).all();
        new WordEdges(sheet).all();
        new PromiseEdges(sheet).all();
        sheet.whole();
        System.out.println(sheet.wrong() == 0 ? "each sentence holds" : sheet.wrong() + " answers are not as due");
        if (sheet.wrong() != 0) System.exit(1);
    }
}
