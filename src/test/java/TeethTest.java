import java.io.ByteArrayOutputStream;
import java.io.OutputStream;
import java.net.URI;
import java.nio.file.Files;
import java.nio.file.Path;
import java.util.ArrayList;
import java.util.HashMap;
import java.util.List;
import java.util.Map;
import java.util.function.Supplier;
import java.util.regex.Matcher;
import java.util.regex.Pattern;
import javax.tools.FileObject;
import javax.tools.ForwardingJavaFileManager;
import javax.tools.JavaCompiler;
import javax.tools.JavaFileManager;
import javax.tools.JavaFileObject;
import javax.tools.SimpleJavaFileObject;
import javax.tools.StandardJavaFileManager;
import javax.tools.ToolProvider;

/**
 * Each edge's test would fail if its words were broken: it passes on the Model, and fails on every
 * Model that is broken as the edge tells. The class itself is not looked at here, so it may be
 * written anew without a change to this.
 */
public final class TeethTest {
  private static final Check is = new Check();

  public static void main(String[] args) throws Exception {
    String model = Files.readString(Path.of("src/test/java/Model.java"));
    List<JavaFileObject> sources = new ArrayList<>();
    for (Edges part : Edges.all()) {
      for (Edges.Edge e : part.edges) {
        for (Edges.Break b : e.breaks) sources.add(new Source(sources.size(), broken(model, e, b)));
      }
    }
    Loader loader = compiled(sources);
    int next = 0;
    for (Edges part : Edges.all()) {
      for (Edges.Edge e : part.edges) {
        List<String> wrong = part.wrongs(e, () -> Faces.of(new Model()));
        is.due(e.name() + " on the Model: " + wrong, wrong.isEmpty());
        is.due(e.name() + " tells how it would be broken", !e.breaks.isEmpty());
        for (Edges.Break b : e.breaks) {
          Supplier<Face> made = loader.maker(name(next++));
          is.due(e.name() + " is not noticed to be broken by " + b, !part.wrongs(e, made).isEmpty());
        }
      }
    }
    is.end();
  }

  private static String name(int i) {
    return "Broken" + i;
  }

  private static String broken(String model, Edges.Edge e, Edges.Break b) {
    Matcher method = Pattern.compile(b.method().equals("Model") ? "  Model\\(" : "(int|long|boolean|void|String|Model) " + b.method() + "\\(").matcher(model);
    int from = b.method().isEmpty() ? 0 : method.find() ? method.start() : -1;
    int at = from < 0 ? -1 : model.indexOf(b.old(), from);
    boolean isThere = at >= 0 && (b.method().isEmpty() || model.substring(from, at).indexOf("\n  }\n") < 0);
    is.due(e.name() + ": the Model has " + b, isThere);
    return isThere ? model.substring(0, at) + b.by() + model.substring(at + b.old().length()) : model;
  }

  private static Loader compiled(List<JavaFileObject> sources) throws Exception {
    JavaCompiler javac = ToolProvider.getSystemJavaCompiler();
    Loader loader = new Loader();
    try (StandardJavaFileManager files = javac.getStandardFileManager(null, null, null); Kept kept = new Kept(files, loader)) {
      is.due("the broken Models are Java", javac.getTask(null, kept, null, List.of("-proc:none", "-nowarn"), null, sources).call());
    }
    return loader;
  }

  private static final class Source extends SimpleJavaFileObject {
    private final String text;

    Source(int i, String model) {
      super(URI.create("string:///" + name(i) + ".java"), Kind.SOURCE);
      text = model.replaceAll("\\bModel\\b", name(i));
    }

    @Override
    public CharSequence getCharContent(boolean ignored) {
      return text;
    }
  }

  /** What javac writes stays in the room. */
  private static final class Kept extends ForwardingJavaFileManager<JavaFileManager> {
    private final Loader loader;

    Kept(JavaFileManager files, Loader loader) {
      super(files);
      this.loader = loader;
    }

    @Override
    public JavaFileObject getJavaFileForOutput(Location where, String name, JavaFileObject.Kind kind, FileObject sibling) {
      ByteArrayOutputStream bytes = new ByteArrayOutputStream();
      loader.classes.put(name, bytes);
      return new SimpleJavaFileObject(URI.create("string:///" + name + ".class"), kind) {
        @Override
        public OutputStream openOutputStream() {
          return bytes;
        }
      };
    }
  }

  private static final class Loader extends ClassLoader {
    private final Map<String, ByteArrayOutputStream> classes = new HashMap<>();

    @Override
    protected Class<?> findClass(String name) throws ClassNotFoundException {
      ByteArrayOutputStream bytes = classes.get(name);
      if (bytes == null) throw new ClassNotFoundException(name);
      return defineClass(name, bytes.toByteArray(), 0, bytes.size());
    }

    Supplier<Face> maker(String name) {
      return () -> {
        try {
          var made = loadClass(name).getDeclaredConstructor();
          made.setAccessible(true);
          return Faces.of(made.newInstance());
        } catch (ReflectiveOperationException e) {
          throw new LinkageError(name, e);
        }
      };
    }
  }
}
