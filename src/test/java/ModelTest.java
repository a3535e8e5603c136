import java.lang.reflect.Method;
import java.util.ArrayList;
import java.util.Arrays;
import java.util.HashMap;
import java.util.List;
import java.util.Map;
import java.util.Random;

/** Runs of calls by chance (seeded) on the class and on the Model: each answer must be the same. */
public final class ModelTest {
  private static final int RUNS = 4000;
  private static final Map<String, Method> FACE = new HashMap<>(), MODEL = new HashMap<>();
  private static final List<String> NAMES = new ArrayList<>();

  public static void main(String[] args) throws Exception {
    for (Method m : BridgeSentences.class.getDeclaredMethods()) {
      if (!java.lang.reflect.Modifier.isPublic(m.getModifiers())) continue;
      FACE.put(m.getName(), m);
      MODEL.put(m.getName(), Model.class.getDeclaredMethod(m.getName(), m.getParameterTypes()));
      NAMES.add(m.getName());
    }
    NAMES.sort(null);
    int calls = 0;
    for (int seed = 0; seed < RUNS; seed++) calls += new Run(seed).go();
    texts();
    System.out.println(RUNS + " runs, " + calls + " calls, all as the model's");
  }

  /** Each text alone on a new object: whether it is a BRIDGE, or where the FAULT is. */
  private static void texts() {
    Random r = new Random(77);
    for (int i = 0; i < 60000; i++) {
      String t = i % 4 == 0 ? Texts.whole(r) : Texts.spoilt(r);
      BridgeSentences x = new BridgeSentences();
      for (int k = 0; k < t.length(); k++) x.feed(t.charAt(k));
      int fault = Model.fault(t);
      int want = fault < 0 ? 0 : -10 - fault;
      int got = x.bridge();
      if (got != want || i % 4 == 0 && got != 0) {
        System.out.println("bridge() of '" + t + "' answered " + got + ", due is " + want);
        System.exit(1);
      }
    }
  }

  private static final class Run {
    private final Random r;
    private final int seed;
    private final BridgeSentences x = new BridgeSentences();
    private final Model m = new Model();
    private final List<String> told = new ArrayList<>();
    /** Some runs keep to small WORTHS, in which none, ties and changes of TIP are common. */
    private final boolean isSmall;

    Run(int seed) {
      this.seed = seed;
      this.r = new Random(seed * 7919L + 13);
      this.isSmall = seed % 2 == 0;
    }

    int go() throws Exception {
      int people = r.nextInt(7);
      for (int i = 0; i < people; i++) call("one", r.nextInt(7), r.nextInt(10), set());
      for (int s = 0; isSmall && s < 12; s++) call("worth", s, r.nextInt(8));
      if (r.nextInt(4) != 0) feed(Texts.whole(r));
      while (!isOver()) step();
      return told.size();
    }

    private void feed(String t) throws Exception {
      for (int k = 0; k < t.length(); k++) call("feed", (int) t.charAt(k));
      call("bridge");
    }

    private int set() {
      int set = r.nextInt(4096);
      if (r.nextInt(3) == 0) set &= r.nextInt(4096);
      if (r.nextInt(6) == 0) set = 1 << r.nextInt(12);
      return set;
    }

    private int near(int low, int high) {
      if (r.nextInt(25) == 0) {
        int[] odd = {low - 1, high + 1, Integer.MIN_VALUE, Integer.MAX_VALUE, low - 2, high + 2};
        return odd[r.nextInt(odd.length)];
      }
      return low + r.nextInt(high - low + 1);
    }

    private int days() {
      return r.nextInt(30) == 0 ? near(0, 60) : r.nextInt(4) == 0 ? near(0, 12) : near(0, 3);
    }

    private long value() {
      switch (r.nextInt(4)) {
        case 0: return r.nextLong();
        case 1: return r.nextInt(70000) - 35000;
        case 2: return r.nextInt(3);
        default: return (long) r.nextInt() << r.nextInt(40);
      }
    }

    private void step() throws Exception {
      int die = r.nextInt(60);
      if (die == 0) { feed(Texts.whole(r)); return; }
      if (die == 1) { feed(Texts.spoilt(r)); return; }
      if (die == 2) { judgeRow(); return; }
      if (die == 3) { call("see", -1, 0); return; }
      if (die == 4) { seeAsItIs(); return; }
      if (die == 5) { askAll(); return; }
      String name = NAMES.get(r.nextInt(NAMES.size()));
      if ((name.equals("undo") || name.equals("image")) && r.nextInt(3) != 0) return;
      if (name.equals("bridge") && r.nextInt(3) != 0) return;
      call(name, arguments(name));
    }

    /** A row of longs that tells the WORTHS as they are, or but for one. */
    private void judgeRow() throws Exception {
      int t = r.nextInt(6), n = r.nextInt(16), from = r.nextInt(4);
      call("tape", t, 3, n);
      for (int s = 0; s < 12 && from + s < n; s++) call("item", t, from + s, (long) m.told(10 + s));
      if (r.nextInt(2) == 0) call("item", t, near(0, 15), value());
      call("judge", t, from);
    }

    private void seeAsItIs() throws Exception {
      call("see", -1, 5);
      int people = m.count(0);
      for (int i = 0; i < people; i++) {
        if (r.nextBoolean()) call("see", i, Math.max(-1, m.of(i, 5)));
      }
    }

    /** All that can be asked of one who HAS something. */
    private void askAll() throws Exception {
      if (m.count(0) == 0) return;
      int p = r.nextInt(m.count(0));
      call("learn", p, set());
      for (int what = 5; what <= 8; what++) call("of", p, what);
      int tip = m.of(p, 5);
      call("decoy", p, tip < 0 ? r.nextInt(12) : tip);
      for (int part = 0; part < 2; part++) {
        call("can", p, part);
        call("odds", p, part);
        call("mean", days(), part);
        call("ends", part);
      }
      call("told", 30 + r.nextInt(12));
      call("told", 50 + r.nextInt(12));
      call("act", p, r.nextInt(3), r.nextInt(100) - 50);
      for (int i = 0; i < 13; i++) call("trace", i);
    }

    private Object[] arguments(String name) {
      int p = near(0, 5), s = near(0, 11);
      switch (name) {
        case "one": return new Object[] {near(0, 6), near(0, 9), r.nextInt(20) == 0 ? near(0, 4095) : set()};
        case "of": return new Object[] {p, near(0, 8)};
        case "urge": case "decoy": return new Object[] {p, s};
        case "learn": return new Object[] {p, r.nextInt(20) == 0 ? near(4000, 4095) : set()};
        case "ford": return new Object[] {p, r.nextBoolean()};
        case "worth": return new Object[] {s, isSmall ? near(0, 8) : near(0, 20)};
        case "row": return new Object[] {p, near(0, 3), near(0, 9)};
        case "feed": return new Object[] {r.nextInt(5) == 0 ? near(0, 127) : (int) "press 1p=".charAt(r.nextInt(9))};
        case "told": return new Object[] {r.nextInt(5) == 0 ? near(0, 70) : new int[] {0, 10, 30, 50}[r.nextInt(4)] + near(0, 11)};
        case "pass": return new Object[] {days()};
        case "on": return new Object[] {days(), r.nextBoolean() ? near(0, 2) : near(10, 15)};
        case "see": return new Object[] {p, near(-1, 11)};
        case "can": return new Object[] {p, near(0, 1)};
        case "odds": return new Object[] {p, near(0, 1)};
        case "mean": return new Object[] {days(), near(0, 1)};
        case "plan": return new Object[] {r.nextInt(30) == 0 ? -1 : near(0, 3), near(0, 11)};
        case "ends": return new Object[] {near(0, 1)};
        case "book": return new Object[] {r.nextInt(30) == 0 ? -1 : s, r.nextBoolean() ? near(0, 20) : m.told(10 + Math.max(0, Math.min(11, s)))};
        case "judge": return new Object[] {near(0, 5), near(0, 3)};
        case "act": return new Object[] {p, near(0, 2), r.nextBoolean() ? r.nextInt(40) - 20 : r.nextInt()};
        case "trace": return new Object[] {near(0, 19)};
        case "taken": return new Object[] {p, near(0, 6)};
        case "count": return new Object[] {near(0, 6)};
        case "tape": return new Object[] {near(0, 5), near(-1, 4), r.nextInt(8) == 0 ? near(0, 60) : near(0, 8)};
        case "item": return new Object[] {near(0, 5), near(0, 7), value()};
        case "read": return new Object[] {near(0, 5), near(0, 7)};
        case "shift": return new Object[] {near(0, 5), near(0, 5), near(0, 5), near(0, 5), near(0, 4)};
        default: return new Object[0];
      }
    }

    private boolean isOver() {
      return told.size() >= Faces.MOST_CALLS;
    }

    /** What the run itself wants to know it asks the Model, so that these are all calls of the object. */
    private void call(String name, Object... arguments) throws Exception {
      if (isOver()) return;
      Object got = FACE.get(name).invoke(x, arguments);
      Object want = MODEL.get(name).invoke(m, arguments);
      told.add(name + Arrays.toString(arguments) + " -> " + got);
      if (!got.equals(want)) {
        for (String line : told) System.out.println(line);
        System.out.println("run " + seed + ": the last answer is wrong, the model's is " + want);
        System.exit(1);
      }
    }
  }
}
