import java.nio.file.Path;

/** Each sentence of the document that names an edge, by a test of its own. Run from the project's own folder. */
public final class EdgeTest {
  public static void main(String[] args) throws Exception {
    Watch.over("EdgeTest");
    Edges e = new Edges(Path.of(args.length > 0 ? args[0] : "../shared/DOC.md"));
    EdgesOfTerms.all(e);
    EdgesOfTexts.all(e);
    EdgesOfCalls.all(e);
    EdgesOfThoughts.all(e);
    if (e.end() > 0) System.exit(1);
  }
}
