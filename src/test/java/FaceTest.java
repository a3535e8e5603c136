import java.lang.reflect.Field;
import java.lang.reflect.Method;
import java.lang.reflect.Modifier;
import java.nio.file.Files;
import java.nio.file.Path;
import java.util.ArrayList;
import java.util.HashSet;
import java.util.List;
import java.util.Set;
import java.util.TreeSet;

/** The class's face is the document's and no more, and the source keeps to what of LANGUAGE.md can be seen so. */
public final class FaceTest {
  private static final Check is = new Check();
  private static final String[] FACE = {"int one(int,int,int)", "int of(int,int)", "int urge(int,int)", "int learn(int,int)",
      "int ford(int,boolean)", "int worth(int,int)", "int row(int,int,int)", "int feed(int)", "int bridge()", "int told(int)",
      "int pass(int)", "int on(int,int)", "int decoy(int,int)", "int see(int,int)", "int can(int,int)", "long odds(int,int)",
      "long mean(int,int)", "int plan(int,int)", "int ends(int)", "int book(int,int)", "int looked()", "int judge(int,int)",
      "int image()", "int undo()", "int act(int,int,int)", "int trace(int)", "int taken(int,int)", "int count(int)",
      "int tape(int,int,int)", "int item(int,int,long)", "long read(int,int)", "int shift(int,int,int,int,int)"};

  public static void main(String[] args) throws Exception {
    constants();
    face();
    inside();
    source();
    is.end();
  }

  private static void constants() {
    is.due("NONE", BridgeSentences.NONE, -1);
    is.due("BAD", BridgeSentences.BAD, -2);
    is.due("STATE", BridgeSentences.STATE, -3);
    is.due("FULL", BridgeSentences.FULL, -4);
    is.due("NO", BridgeSentences.NO, Long.MIN_VALUE);
  }

  private static void face() {
    Set<String> due = new TreeSet<>(List.of(FACE)), got = new TreeSet<>();
    Set<String> names = new HashSet<>();
    for (Method m : BridgeSentences.class.getDeclaredMethods()) {
      if (Modifier.isPrivate(m.getModifiers()) || m.isSynthetic()) continue;
      is.due(m + " is public and no static one", Modifier.isPublic(m.getModifiers()) && !Modifier.isStatic(m.getModifiers()));
      List<String> types = new ArrayList<>();
      for (Class<?> c : m.getParameterTypes()) types.add(c.getName());
      got.add(m.getReturnType() + " " + m.getName() + "(" + String.join(",", types) + ")");
      names.add(m.getName());
    }
    is.due("the methods are the document's: " + got, got.equals(due));
    is.due("public and final", (BridgeSentences.class.getModifiers() & (Modifier.PUBLIC | Modifier.FINAL)) == (Modifier.PUBLIC | Modifier.FINAL));
    is.due("one constructor", BridgeSentences.class.getDeclaredConstructors().length, 1);
    is.due("it is public", BridgeSentences.class.getConstructors().length, 1);
    Set<String> fields = new TreeSet<>();
    for (Field f : BridgeSentences.class.getFields()) fields.add(f.getName());
    is.due("the constants are the document's", fields.equals(new TreeSet<>(List.of("NONE", "BAD", "STATE", "FULL", "NO"))));
    for (Method m : BridgeSentences.class.getDeclaredMethods()) {
      if (Modifier.isPrivate(m.getModifiers())) is.due(m + " bears a name of the face", !names.contains(m.getName()));
    }
  }

  private static void inside() {
    List<Class<?>> all = new ArrayList<>(List.of(BridgeSentences.class.getDeclaredClasses()));
    is.due("some twelve classes", all.size() <= 12);
    for (Class<?> c : all) is.due(c + " is static", Modifier.isStatic(c.getModifiers()));
    all.add(BridgeSentences.class);
    for (Class<?> c : all) {
      int own = 0;
      for (Field f : c.getDeclaredFields()) {
        boolean isStatic = Modifier.isStatic(f.getModifiers());
        is.due(f + " is final", !isStatic || Modifier.isFinal(f.getModifiers()));
        if (!isStatic) own++;
        if (c == BridgeSentences.class && !Modifier.isPublic(f.getModifiers())) is.due(f + " is private", Modifier.isPrivate(f.getModifiers()));
      }
      is.due(c + " has few fields", own <= 20);
      for (Method m : c.getDeclaredMethods()) is.due(m + " has few parameters", m.getParameterCount() <= 7);
    }
  }

  /** Only what the rules forbid by name: a class that is written otherwise within them passes, too. */
  private static void source() throws Exception {
    String text = Files.readString(Path.of("src/main/java/BridgeSentences.java")).replaceAll("(?s)/\\*.*?\\*/", "").replaceAll("//[^\\n]*", "");
    String bare = text.replaceAll("\"[^\"]*\"", "\"\"").replaceAll("(case [^:>]*|default *)->", "");
    for (String word : new String[] {"package", "throw", "throws", "try", "catch", "synchronized", "assert", "hashCode", "Thread", "Random"}) {
      is.due("no " + word, !bare.matches("(?s).*\\b" + word + "\\b.*"));
    }
    for (String sign : new String[] {"->", "::", "Exact("}) is.due("no " + sign, !bare.contains(sign));
    is.due("of System arraycopy alone", !bare.matches("(?s).*\\bSystem\\.(?!arraycopy\\b).*"));
    is.due("no import but of lists, iterators, Arrays", !bare.matches("(?s).*\\bimport (?!java\\.util\\.(ArrayList|List|Arrays|Iterator);).*"));
    is.due("signs 1 to 127", text.chars().allMatch(c -> c > 0 && c < 128));
  }
}
