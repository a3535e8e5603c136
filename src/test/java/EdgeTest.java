import java.nio.file.Files;
import java.nio.file.Path;
import java.util.HashSet;
import java.util.List;
import java.util.Set;

/** Each boundary case that the document names holds in the class, and its words stand in the document. */
public final class EdgeTest {
  private static final Path DOCUMENT = Path.of("../shared/DOC.md");
  private static final Check is = new Check();

  public static void main(String[] args) throws Exception {
    Set<String> names = new HashSet<>();
    Set<Integer> promises = new HashSet<>();
    for (Edges part : Edges.all()) {
      for (Edges.Edge e : part.edges) {
        List<String> wrong = part.wrongs(e, () -> Faces.of(new BridgeSentences()));
        is.due(e.name() + ": " + wrong, wrong.isEmpty());
        is.due(e.name() + " is there once", names.add(e.name()));
        promises.add(e.promise);
      }
    }
    for (int p = 0; p <= 33; p++) is.due("an edge of promise " + p, promises.contains(p));
    quotes();
    is.end();
  }

  private static void quotes() throws Exception {
    String document = Files.readString(DOCUMENT).replaceAll("\\s+", " ");
    for (Edges part : Edges.all()) {
      for (Edges.Edge e : part.edges) is.due(e.name() + " stands in the document", section(document, e.promise).contains(e.words));
    }
  }

  private static String section(String document, int promise) {
    int from = promise == Edges.TERMS ? 0 : document.indexOf("## Promise " + promise + ":");
    int to = promise == Edges.TERMS ? document.indexOf("## Promise 1:") : document.indexOf(" ## ", from);
    return from < 0 || to < 0 ? "" : document.substring(from, to);
  }
}
