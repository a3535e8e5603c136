import java.nio.file.Files;
import java.nio.file.Path;
import java.util.LinkedHashMap;
import java.util.List;
import java.util.Map;
import java.util.function.Supplier;
import java.util.regex.Matcher;
import java.util.regex.Pattern;

/**
 * Each edge's test would fail if its words were broken: it passes on the Model, and fails on every
 * Model that is broken as the edge tells. The class itself is not looked at here, so it may be
 * written anew without a change to this.
 */
public final class TeethTest {
  private static final Check is = new Check();

  public static void main(String[] args) throws Exception {
    String model = Files.readString(Path.of("src/test/java/Model.java"));
    Map<String, String> texts = new LinkedHashMap<>();
    for (Edges part : Edges.all()) {
      for (Edges.Edge e : part.edges) {
        for (Edges.Break b : e.breaks) {
          String name = name(texts.size());
          texts.put(name, broken(model, e, b).replaceAll("\\bModel\\b", name));
        }
      }
    }
    Compiled made = Compiled.of(texts);
    is.due("the broken Models are Java", made.isJava());
    int next = 0;
    for (Edges part : Edges.all()) {
      for (Edges.Edge e : part.edges) {
        List<String> wrong = part.wrongs(e, () -> Faces.of(new Model()));
        is.due(e.name() + " on the Model: " + wrong, wrong.isEmpty());
        is.due(e.name() + " tells how it would be broken", !e.breaks.isEmpty());
        for (Edges.Break b : e.breaks) {
          Supplier<Face> maker = maker(made, name(next++));
          is.due(e.name() + " is not noticed to be broken by " + b, !part.wrongs(e, maker).isEmpty());
        }
      }
    }
    is.end();
  }

  private static String name(int i) {
    return "Broken" + i;
  }

  private static String broken(String model, Edges.Edge e, Edges.Break b) {
    Matcher method = Pattern.compile(b.method().equals("Model") ? "  Model\\(" : "(int|long|boolean|void|String|Model) " + b.method() + "\\(").matcher(model);
    int from = b.method().isEmpty() ? 0 : method.find() ? method.start() : -1;
    int at = from < 0 ? -1 : model.indexOf(b.old(), from);
    boolean isThere = at >= 0 && (b.method().isEmpty() || model.substring(from, at).indexOf("\n  }\n") < 0);
    is.due(e.name() + ": the Model has " + b, isThere);
    return isThere ? model.substring(0, at) + b.by() + model.substring(at + b.old().length()) : model;
  }

  private static Supplier<Face> maker(Compiled classes, String name) {
    return () -> {
      try {
        var made = classes.loadClass(name).getDeclaredConstructor();
        made.setAccessible(true);
        return Faces.of(made.newInstance());
      } catch (ReflectiveOperationException e) {
        throw new LinkageError(name, e);
      }
    };
  }
}
