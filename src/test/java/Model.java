import java.util.ArrayList;
import java.util.Arrays;
import java.util.List;

/**
 * The document said once more, as slowly and as literally as it goes: every set is tried, E is
 * split as a text, THE TEXT is read sign by sign, tapes are Java's own arrays. ModelTest holds
 * the class against it. Nothing here is shared with the class.
 */
final class Model {
  private static final class Person {
    int kind, v, has, back;
    boolean beyond;
    int[] row = new int[4];

    Person copy() {
      Person c = new Person();
      c.kind = kind;
      c.v = v;
      c.has = has;
      c.back = back;
      c.beyond = beyond;
      c.row = row.clone();
      return c;
    }
  }

  private int[] worths = new int[12];
  private List<Person> people = new ArrayList<>();
  private int takenSet, heardSet, day, held = -1;
  private List<int[]> seen = new ArrayList<>(), planned = new ArrayList<>(), booked = new ArrayList<>();
  private final List<String> bridges;
  private boolean asked = false;

  private String text = "";
  private Model kept;
  private List<Integer> bodies = new ArrayList<>();
  private final Object[] tapes = new Object[6];

  Model() {
    Arrays.fill(worths, 10);
    bridges = new ArrayList<>();
  }

  private Model(Model m) {
    bridges = m.bridges;
    become(m);
  }

  private void become(Model m) {
    worths = m.worths.clone();
    people = new ArrayList<>();
    for (Person p : m.people) people.add(p.copy());
    takenSet = m.takenSet;
    heardSet = m.heardSet;
    day = m.day;
    held = m.held;
    seen = new ArrayList<>(m.seen);
    planned = new ArrayList<>(m.planned);
    booked = new ArrayList<>(m.booked);
  }

  private Model copy() {
    Model m = new Model(this);
    m.asked = true;
    return m;
  }

  private boolean isPerson(int p) { return p >= 0 && p < people.size(); }
  private static boolean isSentence(int s) { return s >= 0 && s <= 11; }
  private static boolean has(int set, int s) { return (set & (1 << s)) != 0; }

  // ---- the text

  /** Reads sign by sign with a stack of what is open; the FAULT, or -1. */
  static int fault(String t) {
    String word = "", open = "";
    int clause = 1, digits = 0;
    char state = 'W'; // W word, N n, E a factor is due, C a comparison is due, D digits of a test, A behind a factor
    for (int i = 0; i < t.length(); i++) {
      char c = t.charAt(i);
      boolean digit = c >= '0' && c <= '9';
      if (state == 'W') {
        word += c;
        if (!"press ".startsWith(word) && !"hold ".startsWith(word) && !"free ".startsWith(word)) return i;
        if (c == ' ') { state = 'N'; digits = 0; }
        continue;
      }
      if (state == 'N') {
        if (digit && digits < 2) { digits++; continue; }
        if (digits == 0) return i;
        if (word.equals("free ")) {
          if (c != ';' || clause == 10) return i;
          clause++; word = ""; state = 'W';
        } else {
          if (c != ' ') return i;
          state = 'E'; open = "";
        }
        continue;
      }
      if (state == 'E') {
        if (c == '(' || c == '!') {
          if (open.length() == 4) return i;
          open += c;
        } else if ("pkvswd".indexOf(c) >= 0) {
          state = 'C';
        } else {
          return i;
        }
        continue;
      }
      if (state == 'C') {
        if (c != '<' && c != '=' && c != '>') return i;
        state = 'D'; digits = 0;
        continue;
      }
      if (state == 'D') {
        if (digit && digits < 2) { digits++; continue; }
        if (digits == 0) return i;
        state = 'A';
        open = withoutNots(open);
      }
      if (c == '&' || c == '|') {
        state = 'E';
      } else if (c == ')') {
        if (open.isEmpty()) return i;
        open = withoutNots(open.substring(0, open.length() - 1));
      } else if (c == ';') {
        if (!open.isEmpty() || clause == 10) return i;
        clause++; word = ""; state = 'W';
      } else {
        return i;
      }
    }
    boolean isWhole = state == 'N' && word.equals("free ") && digits > 0
        || state == 'D' && digits > 0 && withoutNots(open).isEmpty()
        || state == 'A' && open.isEmpty();
    return isWhole ? -1 : t.length();
  }

  private static String withoutNots(String open) {
    while (open.endsWith("!")) open = open.substring(0, open.length() - 1);
    return open;
  }

  /** Splits at a sign that stands within no brackets. */
  private static List<String> split(String e, char sign) {
    List<String> parts = new ArrayList<>();
    int depth = 0, from = 0;
    for (int i = 0; i < e.length(); i++) {
      char c = e.charAt(i);
      if (c == '(') depth++;
      if (c == ')') depth--;
      if (c == sign && depth == 0) { parts.add(e.substring(from, i)); from = i + 1; }
    }
    parts.add(e.substring(from));
    return parts;
  }

  private boolean holds(String e, int person, int s) {
    List<String> either = split(e, '|');
    if (either.size() > 1) {
      for (String t : either) if (holds(t, person, s)) return true;
      return false;
    }
    List<String> both = split(e, '&');
    if (both.size() > 1) {
      for (String t : both) if (!holds(t, person, s)) return false;
      return true;
    }
    if (e.startsWith("!")) return !holds(e.substring(1), person, s);
    if (e.startsWith("(")) return holds(e.substring(1, e.length() - 1), person, s);
    int n = Integer.parseInt(e.substring(2));
    Person one = people.get(person);
    int left;
    switch (e.charAt(0)) {
      case 'p': left = person; break;
      case 'k': left = one.kind; break;
      case 'v': left = one.v; break;
      case 's': left = s; break;
      case 'w': left = worths[s]; break;
      default: left = day % 10; break;
    }
    char sign = e.charAt(1);
    return sign == '<' ? left < n : sign == '=' ? left == n : left > n;
  }

  private int free() {
    int free = 0;
    if (held >= 0) {
      for (String clause : bridges.get(held).split(";")) {
        if (clause.startsWith("free ")) free = Integer.parseInt(clause.substring(5));
      }
    }
    return free;
  }

  private int sum(int person, int s) {
    int sum = worths[s];
    if (held < 0) return sum;
    for (String clause : bridges.get(held).split(";")) {
      String[] parts = clause.split(" ");
      if (parts[0].equals("press") && holds(parts[2], person, s)) sum += Integer.parseInt(parts[1]);
      if (parts[0].equals("hold") && holds(parts[2], person, s)) sum -= Integer.parseInt(parts[1]);
    }
    return sum;
  }

  private int[] sums(int person) {
    int[] sums = new int[12];
    for (int s = 0; s < 12; s++) sums[s] = sum(person, s);
    return sums;
  }

  private int urgeBySum(int person, int s, int sum) {
    Person one = people.get(person);
    int poet = sum + (one.beyond ? one.v : 0);
    int lover = sum - Integer.bitCount(one.has);
    switch (one.kind) {
      case 0: return sum;
      case 1: return poet;
      case 2: return sum / 2;
      case 3: return lover;
      case 4: return s % 2 == 0 ? 2 * poet : poet;
      case 5: return sum / 2 - (one.back > 9 ? 9 : one.back);
      default: return lover + one.row[s % 4];
    }
  }

  private int tipBySums(int person, int[] sums) {
    int tip = -5, most = 0;
    for (int s = 0; s < 12; s++) {
      if (!has(people.get(person).has, s)) continue;
      int u = urgeBySum(person, s, sums[s]);
      if (u > most) { most = u; tip = s; }
    }
    return tip;
  }

  private int tip(int person) { return tipBySums(person, sums(person)); }

  // ---- days

  private void goDay() {
    for (int i = 0; i < people.size(); i++) {
      Person one = people.get(i);
      int tip = tip(i);
      boolean was = one.beyond;
      if (!was && tip >= 0) {
        one.has -= 1 << tip;
        takenSet |= 1 << tip;
        one.beyond = true;
      }
      if (!was && tip < 0 && (asked || one.back < 9999)) one.back++;
      if (was && tip >= 0) {
        one.has -= 1 << tip;
        heardSet |= 1 << tip;
      }
    }
    int free = free();
    if (free > 0 && day % free == 0 && takenSet != 0) {
      for (int s = 0; s < 12; s++) {
        if (has(takenSet, s)) { hear(s); break; }
      }
    }
    day++;
  }

  private void hear(int s) {
    heardSet |= 1 << s;
    takenSet -= 1 << s;
  }

  private Model behind(int n) {
    Model m = copy();
    for (int i = 0; i < n; i++) m.goDay();
    return m;
  }

  private int beyondSet() {
    int bits = 0;
    for (int i = 0; i < people.size(); i++) if (people.get(i).beyond) bits += 1 << i;
    return bits;
  }

  // ---- the face

  public int one(int kind, int v, int has) {
    if (kind < 0 || kind > 6) return -1;
    if (v < 0 || v > 9 || has < 0 || has > 4095) return -2;
    if (people.size() == 6) return -4;
    Person p = new Person();
    p.kind = kind;
    p.v = v;
    p.has = has;
    people.add(p);
    return people.size() - 1;
  }

  public int of(int person, int what) {
    if (!isPerson(person) || what < 0 || what > 8) return -1;
    Person p = people.get(person);
    if (what == 0) return p.kind;
    if (what == 1) return p.v;
    if (what == 2) return p.has;
    if (what == 3) return p.beyond ? 1 : 0;
    if (what == 4) return p.back;
    if (what == 5) return tip(person);
    if (what == 6) return dear(person);
    List<Integer> sets = new ArrayList<>();
    Model m = copy();
    int[] sums = sums(person);
    for (int set = 0; set < 4096; set++) {
      m.people.get(person).has = set;
      if (m.isSeen(person, m.tipBySums(person, sums))) sets.add(set);
    }
    if (what == 7) return sets.size();
    return sets.isEmpty() ? -5 : sets.get(0);
  }

  private int dear(int person) {
    int tip = tip(person), most = -5;
    if (tip < 0) return -5;
    for (int less = 0; less <= 20; less++) {
      Model m = copy();
      m.worths[tip] = Math.max(0, worths[tip] - less);
      if (m.tip(person) == tip) most = less;
    }
    return most;
  }

  private boolean isSeen(int person, int tip) {
    for (int[] row : seen) {
      if (row[0] == person && (row[1] == -1 ? tip != -5 : tip != row[1])) return false;
    }
    return true;
  }

  public int urge(int person, int sentence) {
    if (!isPerson(person) || !isSentence(sentence)) return -10001;
    return urgeBySum(person, sentence, sum(person, sentence));
  }

  public int learn(int person, int sentences) {
    if (!isPerson(person)) return -1;
    if (sentences < 0 || sentences > 4095) return -2;
    int was = people.get(person).has;
    people.get(person).has = sentences;
    return was;
  }

  public int ford(int person, boolean isBeyond) {
    if (!isPerson(person)) return -1;
    boolean was = people.get(person).beyond;
    people.get(person).beyond = isBeyond;
    return was ? 1 : 0;
  }

  public int worth(int sentence, int n) {
    if (!isSentence(sentence)) return -1;
    if (n < 0 || n > 20) return -2;
    int was = worths[sentence];
    worths[sentence] = n;
    return was;
  }

  public int row(int person, int part, int n) {
    if (!isPerson(person) || part < 0 || part > 3) return -1;
    if (n < 0 || n > 9) return -2;
    if (people.get(person).kind != 6) return -3;
    int was = people.get(person).row[part];
    people.get(person).row[part] = n;
    return was;
  }

  public int feed(int sign) {
    if (sign < 0 || sign > 127) return -2;
    if (text.length() == 100) return -4;
    text += (char) sign;
    return text.length();
  }

  public int bridge() {
    if (bridges.size() == 6) return -4;
    String t = text;
    text = "";
    int fault = fault(t);
    if (fault >= 0) return -10 - fault;
    bridges.add(t);
    held = bridges.size() - 1;
    return held;
  }

  public int told(int what) {
    if (what == 0) return day;
    if (what == 1) return free();
    if (what == 2) return takenSet;
    if (what == 3) return heardSet;
    if (what == 4) return beyondSet();
    if (what >= 10 && what <= 21) return worths[what - 10];
    if (what >= 30 && what <= 41) {
      Model m = copy();
      for (int n = 0; n <= 60; n++) {
        if (has(m.heardSet, what - 30)) return n;
        m.goDay();
      }
      return -5;
    }
    if (what >= 50 && what <= 61) {
      int bits = 0;
      for (int n = 0; n <= 20; n++) {
        Model m = copy();
        m.worths[what - 50] = n;
        boolean isSo = true;
        for (int i = 0; i < people.size(); i++) isSo &= m.isSeen(i, m.tip(i));
        if (isSo) bits += 1 << n;
      }
      return bits;
    }
    return -1;
  }

  public int pass(int n) {
    if (n < 0 || n > 60) return -2;
    if (day + n > 9999) return -3;
    for (int i = 0; i < n; i++) goDay();
    return day;
  }

  public int on(int n, int what) {
    boolean isWhat = what == 0 || what == 1 || what == 2 || what >= 10 && isPerson(what - 10);
    if (!isWhat) return -1;
    if (n < 0 || n > 60) return -2;
    Model m = behind(n);
    if (what == 0) return m.takenSet;
    if (what == 1) return m.heardSet;
    if (what == 2) return m.beyondSet();
    return m.people.get(what - 10).has;
  }

  public int decoy(int person, int sentence) {
    if (!isPerson(person) || !isSentence(sentence)) return -1;
    int had = people.get(person).has;
    if (!has(had, sentence)) return -5;
    int[] sums = sums(person);
    Model m = copy();
    int best = -5, fewest = 99;
    for (int set = 0; set < 4096; set++) {
      if ((set & had) != 0 || Integer.bitCount(set) >= fewest) continue;
      m.people.get(person).has = had | set;
      int tip = m.tipBySums(person, sums);
      if (tip != -5 && tip != sentence) { best = set; fewest = Integer.bitCount(set); }
    }
    return best;
  }

  public int see(int person, int sentence) {
    if (person == -1) { seen.clear(); return 0; }
    if (!isPerson(person) || sentence != -1 && !isSentence(sentence)) return -1;
    if (seen.size() == 5) return -4;
    seen.add(new int[] {person, sentence});
    return seen.size();
  }

  public int can(int person, int what) {
    if (!isPerson(person) || what != 0 && what != 1) return -1;
    List<Integer> found = new ArrayList<>();
    for (int v = 0; v <= 9; v++) {
      Model m = copy();
      m.people.get(person).v = v;
      if (m.isSeen(person, m.tip(person))) found.add(v);
    }
    if (what == 0) return found.size();
    return found.isEmpty() ? -5 : found.get(0);
  }

  private static long lowest(long above, long below, int part) {
    long a = above, b = below;
    while (b != 0) { long r = a % b; a = b; b = r; }
    return part == 0 ? above / a : below / a;
  }

  public long odds(int person, int part) {
    if (!isPerson(person) || part != 0 && part != 1) return Long.MIN_VALUE;
    int tip = tip(person), n = 0;
    for (int s = 0; s < 12; s++) {
      Model m = copy();
      m.people.get(person).has |= 1 << s;
      int then = m.tip(person);
      boolean isAnother = tip != -5 && then != -5 && then != tip;
      boolean isOne = tip == -5 && then != -5;
      if (isAnother || isOne) n++;
    }
    return lowest(n, 12, part);
  }

  public long mean(int n, int part) {
    if (n < 0 || n > 60 || part != 0 && part != 1) return Long.MIN_VALUE;
    Model m = behind(n);
    long sum = 0, all = 0;
    for (int s = 0; s < 12; s++) if (has(m.heardSet, s)) { sum += worths[s]; all++; }
    return all == 0 ? Long.MIN_VALUE : lowest(sum, all, part);
  }

  public int plan(int what, int n) {
    if (what == -1) { planned.clear(); return 0; }
    if (what < 0 || what > 3) return -1;
    if ((what == 1 || what == 2) && !isPerson(n)) return -1;
    if (what == 3 && !isSentence(n)) return -1;
    if (planned.size() == 10) return -4;
    planned.add(new int[] {what, n});
    return planned.size();
  }

  public int ends(int what) {
    if (what != 0 && what != 1) return -1;
    Model m = copy();
    for (int[] row : planned) {
      if (row[0] == 0) m.goDay();
      if (row[0] == 1) m.people.get(row[1]).beyond = true;
      if (row[0] == 2) m.people.get(row[1]).beyond = false;
      if (row[0] == 3 && has(m.takenSet, row[1])) m.hear(row[1]);
    }
    int back = 0;
    for (Person p : m.people) back += p.back;
    return what == 0 ? m.heardSet : back;
  }

  public int book(int sentence, int worth) {
    if (sentence == -1) { booked.clear(); return 0; }
    if (!isSentence(sentence)) return -1;
    if (worth < 0 || worth > 20) return -2;
    if (booked.size() == 8) return -4;
    booked.add(new int[] {sentence, worth});
    return booked.size();
  }

  public int looked() {
    for (int[] row : booked) if (worths[row[0]] != row[1]) return booked.indexOf(row);
    return -5;
  }

  public int judge(int tape, int i) {
    if (tape < 0 || tape > 5) return -1;
    if (tapes[tape] == null) return 100;
    if (!(tapes[tape] instanceof long[])) return -12;
    long[] row = (long[]) tapes[tape];
    if (i < 0) return 100;
    int looked = 0;
    for (long at = i; looked < 12; at++) {
      if (at >= row.length) return 100 + looked;
      if (row[(int) at] != worths[looked]) return looked;
      looked++;
    }
    return -5;
  }

  public int image() {
    kept = new Model(this);
    return people.size();
  }

  public int undo() {
    if (kept == null) return -3;
    become(kept);
    return people.size();
  }

  private static final int[] ABOVE = {-1, 0, 0, 0, 1, 2, 3};

  /** The body for an act from a KIND on upward. */
  private static int body(int kind, int act) {
    int[][] bodies = {{10, 11, 12}, {0, 20, 0}, {30, 0, 0}, {0, 0, 40}, {50, 51, 0}, {0, 0, 60}, {71, 70, 0}};
    while (bodies[kind][act] == 0) kind = ABOVE[kind];
    return bodies[kind][act];
  }

  private int run(int i, int from, int act, int x) {
    Person one = people.get(i);
    int body = body(from, act);
    bodies.add(body);
    switch (body) {
      case 10: return x + i;
      case 11: return run(i, one.kind, 0, x) - one.v;
      case 12: return run(i, one.kind, 1, x) * 2;
      case 20: return run(i, 0, 1, x) ^ 6;
      case 30: return run(i, 0, 0, x * 3);
      case 40: { int a = run(i, 0, 2, x); return a + run(i, one.kind, 1, 1); }
      case 50: return -run(i, 1, 0, x);
      case 51: return run(i, 1, 1, x + 1);
      case 60: return run(i, 2, 2, x - i);
      case 70: { int a = run(i, 3, 1, x); return a + run(i, 3, 0, 2); }
      default: return run(i, 3, 0, x) ^ one.v;
    }
  }

  public int act(int person, int act, int x) {
    bodies = new ArrayList<>();
    if (!isPerson(person) || act < 0 || act > 2) return 0;
    return run(person, people.get(person).kind, act, x);
  }

  public int trace(int i) {
    return i < 0 || i >= 20 || i >= bodies.size() ? -1 : bodies.get(i);
  }

  public int taken(int person, int k) {
    if (k < 0 || k > 6) return -2;
    if (!isPerson(person)) return -11;
    int kind = people.get(person).kind;
    for (int up = kind; up >= 0; up = ABOVE[up]) if (up == k) return kind;
    return -12;
  }

  public int count(int what) {
    int[] counts = {people.size(), bridges.size(), seen.size(), planned.size(), booked.size(), text.length(), bodies.size()};
    return what < 0 || what > 6 ? -2 : counts[what];
  }

  public int tape(int tape, int sort, int n) {
    if (tape < 0 || tape > 5) return -1;
    if (sort < -1 || sort > 4) return -2;
    if (sort == -1) { tapes[tape] = null; return 1; }
    if (n > 60) return -2;
    if (n < 0) return -14;
    switch (sort) {
      case 0: tapes[tape] = new byte[n]; break;
      case 1: tapes[tape] = new short[n]; break;
      case 2: tapes[tape] = new int[n]; break;
      case 3: tapes[tape] = new long[n]; break;
      default: tapes[tape] = new boolean[n]; break;
    }
    return 1;
  }

  private static int length(Object row) { return java.lang.reflect.Array.getLength(row); }

  public int item(int tape, int i, long v) {
    if (tape < 0 || tape > 5) return -1;
    Object t = tapes[tape];
    if (t == null) return -11;
    if (i < 0 || i >= length(t)) return -13;
    if (t instanceof byte[]) ((byte[]) t)[i] = (byte) v;
    if (t instanceof short[]) ((short[]) t)[i] = (short) v;
    if (t instanceof int[]) ((int[]) t)[i] = (int) v;
    if (t instanceof long[]) ((long[]) t)[i] = v;
    if (t instanceof boolean[]) ((boolean[]) t)[i] = v != 0;
    return 1;
  }

  public long read(int tape, int i) {
    if (tape < 0 || tape > 5 || tapes[tape] == null || i < 0 || i >= length(tapes[tape])) return Long.MIN_VALUE;
    Object t = tapes[tape];
    if (t instanceof boolean[]) return ((boolean[]) t)[i] ? 1 : 0;
    return java.lang.reflect.Array.getLong(t, i);
  }

  public int shift(int tape, int i, int other, int j, int n) {
    if (tape < 0 || tape > 5 || other < 0 || other > 5) return -1;
    Object a = tapes[tape], b = tapes[other];
    if (a == null || b == null) return -11;
    if (a.getClass() != b.getClass()) return -12;
    if (n < 0 || i < 0 || j < 0 || (long) i + n > length(a) || (long) j + n > length(b)) return -13;
    System.arraycopy(a, i, b, j, n);
    return n;
  }
}
