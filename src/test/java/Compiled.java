import java.io.ByteArrayOutputStream;
import java.io.OutputStream;
import java.net.URI;
import java.util.ArrayList;
import java.util.HashMap;
import java.util.List;
import java.util.Map;
import javax.tools.FileObject;
import javax.tools.ForwardingJavaFileManager;
import javax.tools.JavaCompiler;
import javax.tools.JavaFileManager;
import javax.tools.JavaFileObject;
import javax.tools.SimpleJavaFileObject;
import javax.tools.StandardJavaFileManager;
import javax.tools.ToolProvider;

/** Classes compiled from texts that a test makes; nothing is written to the disk. */
final class Compiled extends ClassLoader {
  private final Map<String, ByteArrayOutputStream> classes = new HashMap<>();
  private boolean isJava;

  private Compiled() {
    super(Compiled.class.getClassLoader());
  }

  /** By each class's name its text. */
  static Compiled of(Map<String, String> texts) throws Exception {
    List<JavaFileObject> sources = new ArrayList<>();
    texts.forEach((name, text) -> sources.add(new Source(name, text)));
    JavaCompiler javac = ToolProvider.getSystemJavaCompiler();
    Compiled made = new Compiled();
    try (StandardJavaFileManager files = javac.getStandardFileManager(null, null, null); Kept kept = new Kept(files, made)) {
      made.isJava = javac.getTask(null, kept, null, List.of("-proc:none", "-nowarn"), null, sources).call();
    }
    return made;
  }

  boolean isJava() {
    return isJava;
  }

  @Override
  protected Class<?> findClass(String name) throws ClassNotFoundException {
    ByteArrayOutputStream bytes = classes.get(name);
    if (bytes == null) throw new ClassNotFoundException(name);
    return defineClass(name, bytes.toByteArray(), 0, bytes.size());
  }

  private static final class Source extends SimpleJavaFileObject {
    private final String text;

    Source(String name, String text) {
      super(URI.create("string:///" + name + ".java"), Kind.SOURCE);
      this.text = text;
    }

    @Override
    public CharSequence getCharContent(boolean ignored) {
      return text;
    }
  }

  /** What javac writes stays in the room. */
  private static final class Kept extends ForwardingJavaFileManager<JavaFileManager> {
    private final Compiled made;

    Kept(JavaFileManager files, Compiled made) {
      super(files);
      this.made = made;
    }

    @Override
    public JavaFileObject getJavaFileForOutput(Location where, String name, JavaFileObject.Kind kind, FileObject sibling) {
      ByteArrayOutputStream bytes = new ByteArrayOutputStream();
      made.classes.put(name, bytes);
      return new SimpleJavaFileObject(URI.create("string:///" + name + ".class"), kind) {
        @Override
        public OutputStream openOutputStream() {
          return bytes;
        }
      };
    }
  }
}
