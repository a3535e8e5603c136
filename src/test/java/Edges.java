import java.util.ArrayList;
import java.util.List;
import java.util.function.Supplier;

/**
 * Boundary cases, each with the document's own words for it and a test of its own. Each also tells
 * how the Model would break these words and no others; TeethTest sees that the test notices.
 */
abstract class Edges {
  static final long NO = Long.MIN_VALUE;
  static final int LOW = Integer.MIN_VALUE, HIGH = Integer.MAX_VALUE;
  /** The words stand in the document's Terms, or ahead of them. */
  static final int TERMS = 0;

  /** In a method of the Model these signs are put instead of those. */
  record Break(String method, String old, String by) {}

  static final class Edge {
    final int promise;
    final String words, more;
    final List<Break> breaks = new ArrayList<>();
    private Runnable test = () -> { throw new IllegalStateException("no test"); };

    private Edge(int promise, String words, String more) {
      this.promise = promise;
      this.words = words;
      this.more = more;
    }

    Edge broken(String method, String old, String by) {
      breaks.add(new Break(method, old, by));
      return this;
    }

    void by(Runnable test) {
      this.test = test;
    }

    String name() {
      return (promise == TERMS ? "Terms" : "Promise " + promise) + " '" + words + "'" + (more.isEmpty() ? "" : ", " + more);
    }
  }

  final List<Edge> edges = new ArrayList<>();
  private Supplier<Face> maker;
  private final List<String> wrong = new ArrayList<>();

  static List<Edges> all() {
    return List.of(new TermEdges(), new TextEdges(), new AskedEdges(), new PeopleEdges(), new DayEdges(), new TapeEdges(), new StayEdges());
  }

  final Edge edge(int promise, String words) {
    return edge(promise, words, "");
  }

  /** Where the same words hold for several calls, more tells them apart. */
  final Edge edge(int promise, String words, String more) {
    Edge e = new Edge(promise, words, more);
    edges.add(e);
    return e;
  }

  /** What is wrong by an edge's test, if objects are made so. */
  final List<String> wrongs(Edge e, Supplier<Face> made) {
    maker = made;
    wrong.clear();
    try {
      e.test.run();
    } catch (RuntimeException thrown) {
      wrong.add(thrown.toString());
    }
    return List.copyOf(wrong);
  }

  // ---- what tests are made of

  final Face fresh() {
    return maker.get();
  }

  final void is(long got, long due) {
    if (got != due) wrong.add("line " + lineOfTest() + ": " + got + " was answered, due is " + due);
  }

  private static int lineOfTest() {
    for (StackTraceElement at : new Throwable().getStackTrace()) {
      if (!at.getClassName().equals(Edges.class.getName())) return at.getLineNumber();
    }
    return 0;
  }

  /** A new object with one person. */
  final Face with(int kind, int v, int has) {
    Face x = fresh();
    is(x.one(kind, v, has), 0);
    return x;
  }

  /** THE TEXT is fed and read. */
  static int bridge(Face x, String text) {
    feed(x, text);
    return x.bridge();
  }

  static void feed(Face x, String text) {
    for (int i = 0; i < text.length(); i++) x.feed(text.charAt(i));
  }

  /** These are the first WORTHS; the others are 0. */
  static void worths(Face x, int... n) {
    for (int s = 0; s < 12; s++) x.worth(s, s < n.length ? n[s] : 0);
  }

  /** Goes to a DAY, 60 at a time. */
  static void goTo(Face x, int day) {
    for (int left = day - x.told(0); left > 0; left -= 60) x.pass(Math.min(left, 60));
  }
}
