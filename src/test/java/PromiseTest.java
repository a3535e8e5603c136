/** The document promise by promise: ordinary inputs, the edges it names, wrong inputs; all answers by hand. */
public final class PromiseTest {
  private static final long NO = Long.MIN_VALUE;
  private static final int LOW = Integer.MIN_VALUE, HIGH = Integer.MAX_VALUE;
  private static final Check is = new Check();

  public static void main(String[] args) {
    p1new();
    p2one();
    p3of();
    p3dear();
    p3had();
    p4urge();
    p5learn();
    p6ford();
    p7worth();
    p8row();
    p9feed();
    p10bridge();
    p10faults();
    p10meaning();
    p11told();
    p12pass();
    p12free();
    p12limits();
    p13on();
    p14decoy();
    p15see();
    p16can();
    p17odds();
    p18mean();
    p19plan();
    p20ends();
    p21book();
    p22looked();
    p23judge();
    p24image();
    p26act();
    p28taken();
    p29count();
    p30tape();
    p33shift();
    is.end();
  }

  private static Face fresh() {
    return Faces.of(new BridgeSentences());
  }

  private static int text(Face x, String t) {
    for (int i = 0; i < t.length(); i++) x.feed(t.charAt(i));
    return x.bridge();
  }

  /** With one person, on a BRIDGE. */
  private static Face with(int kind, int v, int has, String bridge) {
    Face x = fresh();
    x.one(kind, v, has);
    if (!bridge.isEmpty()) is.due("bridge " + bridge, text(x, bridge), 0);
    return x;
  }

  private static void worths(Face x, int... n) {
    for (int s = 0; s < 12; s++) x.worth(s, s < n.length ? n[s] : 0);
  }

  private static void p1new() {
    Face x = fresh();
    for (int what = 0; what <= 6; what++) is.due("1 count " + what, x.count(what), 0);
    for (int what = 0; what <= 4; what++) is.due("1 told " + what, x.told(what), 0);
    for (int s = 0; s < 12; s++) {
      is.due("1 worth of " + s, x.told(10 + s), 10);
      is.due("1 comes of " + s, x.told(30 + s), -5);
    }
    is.due("1 of", x.of(0, 0), -1);
    is.due("1 undo", x.undo(), -3);
    for (int t = 0; t < 6; t++) is.due("1 tape", x.item(t, 0, 1), -11);
    is.due("1 another object", fresh().count(0), 0);
  }

  private static void p2one() {
    Face x = fresh();
    is.due("2 kind -1", x.one(-1, 10, -1), -1);
    is.due("2 kind 7", x.one(7, 0, 0), -1);
    is.due("2 v -1", x.one(0, -1, 0), -2);
    is.due("2 v 10", x.one(0, 10, 0), -2);
    is.due("2 has -1", x.one(0, 0, -1), -2);
    is.due("2 has 4096", x.one(0, 0, 4096), -2);
    is.due("2 nobody came", x.count(0), 0);
    for (int i = 0; i < 6; i++) is.due("2 the next", x.one(i + 1, 9 - i, 4095 - i), i);
    is.due("2 full", x.one(0, 0, 0), -4);
    is.due("2 full, but kind first", x.one(7, 0, 0), -1);
    is.due("2 full, but v first", x.one(6, 10, 0), -2);
    for (int i = 0; i < 6; i++) {
      is.due("2 kind", x.of(i, 0), i + 1);
      is.due("2 v", x.of(i, 1), 9 - i);
      is.due("2 has", x.of(i, 2), 4095 - i);
    }
  }

  private static void p3of() {
    Face x = with(2, 4, 0b110, "");
    int[] due = {2, 4, 6, 0, 0, 1, 0, 4096, 0};
    for (int what = 0; what <= 8; what++) is.due("3 of " + what, x.of(0, what), due[what]);
    for (int what : new int[] {-1, 9, LOW, HIGH}) is.due("3 what", x.of(0, what), -1);
    for (int p : new int[] {-1, 1, 6, LOW, HIGH}) is.due("3 person", x.of(p, 0), -1);
    x.worth(2, 11);
    is.due("3 tip: halves alike, the first", x.of(0, 5), 1);
    x.worth(2, 12);
    is.due("3 tip: the greatest", x.of(0, 5), 2);
    x.worth(1, 1);
    x.worth(2, 0);
    is.due("3 tip: the half of 1 is not above 0", x.of(0, 5), -5);
    x.learn(0, 0);
    is.due("3 tip of nothing", x.of(0, 5), -5);
    is.due("3 dear of nothing", x.of(0, 6), -5);
    x.pass(3);
    is.due("3 back", x.of(0, 4), 3);
    x.ford(0, true);
    is.due("3 beyond", x.of(0, 3), 1);
  }

  private static void p3dear() {
    Face x = with(0, 0, 0b110, "");
    worths(x, 0, 7, 3);
    is.due("3 dear: a tie is still its", x.of(0, 6), 4);
    worths(x, 0, 3, 7);
    is.due("3 dear: a tie is the other's", x.of(0, 6), 3);
    x.learn(0, 0b100);
    is.due("3 dear: alone, above 0", x.of(0, 6), 6);
    is.due("3 a bridge", text(x, "press 5 s=2"), 0);
    is.due("3 dear: cut at 0 it may be 20", x.of(0, 6), 20);
    is.due("3 another", text(x, "hold 5 w=5;hold 9 w<3"), 1);
    is.due("3 dear: the greatest, whatever is between", x.of(0, 6), 4);
    is.due("3 worth stays", x.told(12), 7);
    Face y = with(0, 0, 1, "");
    is.due("3 tip: the first sentence", y.of(0, 5), 0);
    is.due("3 dear: of the first sentence", y.of(0, 6), 9);
    y.learn(0, 0b11);
    y.worth(0, 11);
    is.due("3 dear: by 1", y.of(0, 6), 1);
  }

  private static void p3had() {
    Face x = with(0, 0, 0, "");
    worths(x, 5, 9, 9, 1);
    x.one(3, 0, 0);
    x.see(0, 2);
    is.due("3 had: with 2, without 1, 0 and 3 to 11 free", x.of(0, 7), 1024);
    is.due("3 had: the least", x.of(0, 8), 4);
    is.due("3 had: of the other nothing is seen", x.of(1, 7), 4096);
    is.due("3 had: of the other the least", x.of(1, 8), 0);
    x.see(0, 2);
    is.due("3 had: told twice", x.of(0, 7), 1024);
    x.see(0, 1);
    is.due("3 had: told unlike", x.of(0, 7), 0);
    is.due("3 had: told unlike, the least", x.of(0, 8), -5);
    x.see(-1, 0);
    x.see(0, -1);
    is.due("3 had: none, of 4 to 11", x.of(0, 7), 256);
    is.due("3 had: none, the least", x.of(0, 8), 0);
    x.see(1, 0);
    is.due("3 had of a lover: 0, and up to 3 of 3 to 11", x.of(1, 7), 1 + 9 + 36 + 84);
    is.due("3 had of a lover, the least", x.of(1, 8), 1);
    x.see(-1, 0);
    x.see(1, 4);
    is.due("3 had: never its tip", x.of(1, 7), 0);
    is.due("3 had: never its tip, the least", x.of(1, 8), -5);
    is.due("3 has stays", x.of(1, 2), 0);
    Face y = with(3, 0, 0, "");
    worths(y, 20, 5, 5, 5, 5, 5, 5, 5, 5, 5, 5, 5);
    y.see(0, 0);
    is.due("3 had of a lover: all sizes up to 12", y.of(0, 7), 2048);
    worths(y, 12, 12, 12, 12, 12, 12, 12, 12, 12, 12, 12, 12);
    y.see(-1, 0);
    y.see(0, -1);
    is.due("3 had of a lover: none by all twelve, or by no one", y.of(0, 7), 2);
  }

  private static void p4urge() {
    Face x = fresh();
    for (int kind = 0; kind < 6; kind++) x.one(kind, 7, 0b111);
    x.worth(5, 3);
    int[] even = {10, 10, 5, 7, 20, 5}, odd = {3, 3, 1, 0, 3, 1};
    for (int p = 0; p < 6; p++) {
      is.due("4 even, of kind " + p, x.urge(p, 4), even[p]);
      is.due("4 odd, of kind " + p, x.urge(p, 5), odd[p]);
      x.ford(p, true);
    }
    int[] evenBeyond = {10, 17, 5, 7, 34, 5}, oddBeyond = {3, 10, 1, 0, 10, 1};
    for (int p = 0; p < 6; p++) {
      is.due("4 even, beyond, of kind " + p, x.urge(p, 4), evenBeyond[p]);
      is.due("4 odd, beyond, of kind " + p, x.urge(p, 5), oddBeyond[p]);
    }
    is.due("4 a bridge", text(x, "hold 8 s=5"), 0);
    int[] below = {-5, 2, -2, -8, 2, -2};
    for (int p = 0; p < 6; p++) is.due("4 below 0, of kind " + p, x.urge(p, 5), below[p]);
    x.ford(4, false);
    is.due("4 an orator's below 0, odd", x.urge(4, 5), -5);
    is.due("4 another", text(x, "hold 12 s=4"), 1);
    is.due("4 an orator's below 0, even", x.urge(4, 4), -4);
    int[][] wrong = {{-1, 0}, {6, 0}, {0, -1}, {0, 12}, {LOW, LOW}, {HIGH, HIGH}};
    for (int[] w : wrong) is.due("4 none", x.urge(w[0], w[1]), -10001);
    p4told();
    p4child();
  }

  private static void p4told() {
    Face x = with(6, 9, 0b11, "");
    for (int part = 0; part < 4; part++) x.row(0, part, part + 3);
    for (int s = 0; s < 12; s++) is.due("4 told's row at " + s, x.urge(0, s), 10 - 2 + s % 4 + 3);
  }

  private static void p4child() {
    Face x = with(5, 0, 0, "");
    x.worth(0, 20);
    for (int back = 0; back < 12; back++) {
      is.due("4 a child's, " + back + " times back", x.urge(0, 0), 10 - Math.min(back, 9));
      x.pass(1);
    }
  }

  private static void p5learn() {
    Face x = with(0, 0, 9, "");
    is.due("5 what it was", x.learn(0, 4095), 9);
    is.due("5 what it was then", x.learn(0, 0), 4095);
    is.due("5 bad", x.learn(0, 4096), -2);
    is.due("5 bad", x.learn(0, -1), -2);
    is.due("5 none", x.learn(1, 4096), -1);
    is.due("5 none", x.learn(-1, 0), -1);
    is.due("5 stays", x.of(0, 2), 0);
  }

  private static void p6ford() {
    Face x = with(0, 0, 0, "");
    is.due("6 was not", x.ford(0, true), 0);
    is.due("6 was", x.ford(0, true), 1);
    is.due("6 told", x.told(4), 1);
    is.due("6 was still", x.ford(0, false), 1);
    is.due("6 is not", x.of(0, 3), 0);
    is.due("6 none", x.ford(1, true), -1);
    is.due("6 none", x.ford(-1, true), -1);
  }

  private static void p7worth() {
    Face x = fresh();
    is.due("7 was", x.worth(11, 20), 10);
    is.due("7 was then", x.worth(11, 0), 20);
    is.due("7 is", x.told(21), 0);
    is.due("7 bad", x.worth(0, 21), -2);
    is.due("7 bad", x.worth(0, -1), -2);
    is.due("7 none first", x.worth(12, 21), -1);
    is.due("7 none", x.worth(-1, 0), -1);
    is.due("7 stays", x.told(10), 10);
  }

  private static void p8row() {
    Face x = with(3, 0, 0, "");
    x.one(6, 0, 0);
    is.due("8 was", x.row(1, 3, 9), 0);
    is.due("8 was then", x.row(1, 3, 2), 9);
    is.due("8 another part", x.row(1, 0, 1), 0);
    is.due("8 state", x.row(0, 0, 0), -3);
    is.due("8 bad ahead of state", x.row(0, 0, 10), -2);
    is.due("8 bad", x.row(1, 0, -1), -2);
    is.due("8 part", x.row(1, 4, 10), -1);
    is.due("8 part", x.row(0, -1, 0), -1);
    is.due("8 person", x.row(2, 0, 0), -1);
    is.due("8 person", x.row(-1, 0, 0), -1);
    is.due("8 stays", x.row(1, 0, 0), 1);
  }

  private static void p9feed() {
    Face x = fresh();
    is.due("9 bad", x.feed(-1), -2);
    is.due("9 bad", x.feed(128), -2);
    for (int i = 1; i <= 100; i++) is.due("9 how many", x.feed(i % 2 == 0 ? 0 : 127), i);
    is.due("9 full", x.feed(0), -4);
    is.due("9 bad ahead of full", x.feed(128), -2);
    is.due("9 stays", x.count(5), 100);
    is.due("9 read", x.bridge(), -10);
    is.due("9 empty then", x.count(5), 0);
  }

  private static void p10bridge() {
    Face x = with(0, 0, 1, "");
    for (int i = 0; i < 6; i++) {
      is.due("10 number", text(x, "press " + (i + 1) + " s=0;free " + i), i);
      is.due("10 the newest holds", x.urge(0, 0), 11 + i);
      is.due("10 its free", x.told(1), i);
      is.due("10 the text is empty then", x.count(5), 0);
      is.due("10 a fault", text(x, "free"), i < 5 ? -14 : -4);
      is.due("10 the one that held holds", x.urge(0, 0), 11 + i);
      is.due("10 how many", x.count(1), i + 1);
    }
    is.due("10 full: the text stays", x.count(5), 4);
    p10again();
    is.due("10 full though it has a fault", x.bridge(), -4);
  }

  /** Of a text with a FAULT nothing is left for the next. */
  private static void p10again() {
    Face x = with(0, 0, 1, "");
    is.due("10 a fault at the end", text(x, "free 7;press 50 s=0&p=0;hold 9 s=0;press 3 s=0|p=0|x"), -10 - 51);
    is.due("10 a short one", text(x, "press 2 s=0"), 0);
    is.due("10 only its own", x.urge(0, 0), 12);
    is.due("10 no free", x.told(1), 0);
    is.due("10 a fault", text(x, "press 2 s=0;x"), -10 - 12);
    is.due("10 a shorter one, which ends early", text(x, "press 2 s"), -10 - 9);
    String many = "press 1 p=1|p=1|p=1|p=1|p=1|p=1|p=1|p=1|p=1|p=1|";
    for (int i = 0; i < 8; i++) is.due("10 a long fault", text(x, many), -10 - many.length());
    is.due("10 free 1", text(x, "free 1"), 1);
    x.pass(1);
    is.due("12 free 1 lets go each day", x.told(3), 1);
  }

  private static int alone(String t) {
    return text(fresh(), t);
  }

  private static void p10faults() {
    String[] whole = {"free 0", "free 99", "press 00 p<1", "hold 1 p=01&k>2|v<3", "press 1 !!!!p=1", "press 1 ((((p=1))))",
        "press 1 !(!(p=1))", "press 1 !p=1&!!k=2|!!!v=3&!!!!s=4", "press 1 (((w=1)&d=2)|(s>3))",
        "free 1;free 1;free 1;free 1;free 1;free 1;free 1;free 1;free 1;free 1"};
    for (String t : whole) is.due("10 " + t, alone(t), 0);
    String ten = whole[whole.length - 1];
    is.due("10 an eleventh", alone(ten + ";free 1"), -10 - ten.length());
    is.due("10 none", alone(""), -10);
    String[][] faults = {{"", "x"}, {"", " free 1"}, {"", ";"}, {"p", "ess 1"}, {"free", "1"}, {"free ", " 1"}, {"free ", ""},
        {"free 12", "3"}, {"free 1", " "}, {"free 1;", ""}, {"free 1;", ";free 1"}, {"free 1;", " free 1"},
        {"press 1", ""}, {"press 1 ", ""}, {"press ", "p=1"}, {"press 1 ", " p=1"}, {"press 1 p", "1"}, {"press 1 p=", "p"},
        {"press 1 p=", ""}, {"press 1 p=12", "3"}, {"press 1 p=1", " "}, {"press 1 p=1", ")"}, {"press 1 p=1&", ""},
        {"press 1 p=1&", "&p=1"}, {"press 1 p=1|", ";"}, {"press 1 (p=1", ""}, {"press 1 (p=1", ";free 1"}, {"press 1 ", ")"},
        {"press 1 (", ")"}, {"press 1 ((((", "(p=1)))))"}, {"press 1 !!!!", "!p=1"}, {"press 1 !(!(", "!p=1))"},
        {"press 1 (!(!p=1&!p=2&!", "!p=3))"}, {"press 1 ((((p=1))))&((((", "!p=1))))"}, {"hold 1 p=1", "!"}, {"press 1 p<", "=1"},
        {"press 1 p=1;hold 1 ", "q=1"}, {"hold 1 ", "P=1"}, {"", "FREE 1"}, {"free 1", "\n"}};
    for (String[] f : faults) {
      is.due("10 " + f[0] + f[1], alone(f[0] + f[1]), -10 - f[0].length());
    }
    StringBuilder longest = new StringBuilder("press 1 p=1");
    while (longest.length() < 99) longest.append("|p=1");
    is.due("10 long", longest.length(), 99);
    is.due("10 99 bytes", alone(longest.toString()), 0);
    is.due("10 100 bytes", alone(longest + "0"), 0);
    is.due("10 the end of 100 bytes", alone(longest + "|"), -110);
  }

  /** Whether an E holds for one and a SENTENCE is seen by a press of 1. */
  private static void p10meaning() {
    meaning("p=1", 1);
    meaning("p<1", 0);
    meaning("p>0", 1);
    meaning("k=3", 1);
    meaning("v=7", 1);
    meaning("s=5", 1);
    meaning("s<5", 0);
    meaning("s>4", 1);
    meaning("w=14", 1);
    meaning("w>14", 0);
    meaning("d=2", 1);
    meaning("!d=2", 0);
    meaning("!!d=2", 1);
    meaning("p=0|p=1", 1);
    meaning("p=0&p=1", 0);
    meaning("p=1|p=0&p=0", 1);
    meaning("p=0&p=0|p=1", 1);
    meaning("(p=1|p=0)&p=0", 0);
    meaning("p=1&(p=0|p=1)", 1);
    meaning("!p=1|p=1", 1);
    meaning("!(p=1|p=1)", 0);
    meaning("!p=0&p=0", 0);
    meaning("!(p=0&p=0)", 1);
    meaning("p=0|(p=0|(p=0|(p=1&k=3)))", 1);
    Face x = with(0, 0, 1, "free 3;press 9 s=0;hold 4 s=0;press 99 s=1;hold 30 s<2;free 2");
    is.due("10 all together", x.urge(0, 0), 10 + 9 - 4 - 30);
    is.due("10 all together", x.urge(0, 1), 10 + 99 - 30);
    is.due("10 none of them", x.urge(0, 2), 10);
    is.due("10 the last free", x.told(1), 2);
  }

  private static void meaning(String e, int due) {
    Face x = with(0, 0, 0, "");
    x.one(3, 7, 0);
    x.worth(5, 14);
    x.pass(12);
    is.due("10 bridge " + e, text(x, "press 1 " + e), 0);
    is.due("10 " + e, x.urge(1, 5) - 14, due);
  }

  private static void p11told() {
    Face x = with(0, 0, 0b1011, "free 4");
    x.one(0, 0, 0b0100);
    worths(x, 3, 9, 6, 0);
    x.pass(1);
    is.due("11 day", x.told(0), 1);
    is.due("11 free", x.told(1), 4);
    is.due("11 taken: 1 was let go at once", x.told(2), 0b0100);
    is.due("11 heard", x.told(3), 0b0010);
    is.due("11 beyond", x.told(4), 3);
    is.due("11 worth", x.told(12), 6);
    is.due("11 comes: it has", x.told(31), 0);
    is.due("11 comes: tomorrow", x.told(30), 1);
    is.due("11 comes: let go on day 4", x.told(32), 4);
    is.due("11 comes: never urged", x.told(33), -5);
    for (int what : new int[] {-1, 5, 9, 22, 29, 42, 49, 62, LOW, HIGH}) is.due("11 none", x.told(what), -1);
    p11worths();
    p11sixty();
  }

  private static void p11worths() {
    Face x = with(0, 0, 0b11, "");
    x.one(2, 0, 0b10);
    worths(x, 5, 5);
    x.see(0, 0);
    is.due("11 worths of 0: from 5 on", x.told(50), 0x1FFFFF & ~31);
    is.due("11 worths of 1: up to 5", x.told(51), 63);
    is.due("11 worths of 2: any", x.told(52), 0x1FFFFF);
    x.see(1, 1);
    is.due("11 worths of 1: 2 to 5 by both", x.told(51), 0b111100);
    x.see(1, -1);
    is.due("11 worths: never", x.told(61), 0);
    is.due("11 worth stays", x.told(11), 5);
  }

  /** A SENTENCE that is let go on the sixtieth day, or one later. */
  private static void p11sixty() {
    Face x = with(0, 0, 1, "free 60");
    x.pass(1);
    is.due("11 let go on day 0", x.told(3), 1);
    x.learn(0, 2);
    x.ford(0, false);
    is.due("11 taken on day 1, let go on day 60", x.told(31), 60);
    is.due("11 another", text(x, "free 61"), 1);
    is.due("11 one day later", x.told(31), -5);
  }

  private static void p12pass() {
    Face x = with(0, 0, 0b111, "");
    x.one(0, 0, 0b1001);
    x.one(0, 0, 0);
    worths(x, 4, 9, 9, 5);
    is.due("12 no day", x.pass(0), 0);
    is.due("12 nothing went", x.told(2), 0);
    is.due("12 a day", x.pass(1), 1);
    is.due("12 taken", x.told(2), 0b1010);
    is.due("12 heard", x.told(3), 0);
    is.due("12 beyond", x.told(4), 0b011);
    is.due("12 has", x.of(0, 2), 0b101);
    is.due("12 back", x.of(2, 4), 1);
    is.due("12 two days more", x.pass(2), 3);
    is.due("12 taken stays", x.told(2), 0b1010);
    is.due("12 heard", x.told(3), 0b101);
    is.due("12 nothing left", x.of(0, 2) + x.of(1, 2), 0);
    is.due("12 back", x.of(2, 4), 3);
    is.due("12 beyond without a tip is not turned back", x.of(0, 4), 0);
    is.due("12 bad", x.pass(-1), -2);
    is.due("12 bad", x.pass(61), -2);
    is.due("12 sixty", x.pass(60), 63);
    p12taken();
  }

  /** HEARD from one, TAKEN from another: it is both. */
  private static void p12taken() {
    Face x = with(0, 0, 1, "");
    x.one(0, 0, 1);
    x.ford(1, true);
    x.pass(1);
    is.due("12 taken too", x.told(2), 1);
    is.due("12 heard too", x.told(3), 1);
  }

  private static void p12free() {
    Face x = with(0, 0, 0, "free 3");
    for (int p = 1; p < 4; p++) x.one(0, 0, 1 << 4 - p);
    x.pass(1);
    is.due("12 day 0: the least is let go", x.told(3), 0b0010);
    is.due("12 the others are held", x.told(2), 0b1100);
    x.pass(2);
    is.due("12 days 1 and 2: none", x.told(3), 0b0010);
    x.pass(1);
    is.due("12 day 3: the least", x.told(3), 0b0110);
    x.pass(3);
    is.due("12 day 6: the last", x.told(3), 0b1110);
    is.due("12 none is held", x.told(2), 0);
    Face y = with(0, 0, 1, "free 0");
    y.pass(9);
    is.due("12 free 0 lets none go", y.told(2), 1);
  }

  private static void p12limits() {
    Face x = with(5, 0, 0, "");
    x.one(0, 0, 0);
    for (int i = 0; i < 166; i++) x.pass(60);
    is.due("12 near the end", x.pass(38), 9998);
    is.due("12 state", x.pass(2), -3);
    is.due("12 bad ahead of state", x.pass(61), -2);
    is.due("12 the last", x.pass(1), 9999);
    is.due("12 state", x.pass(1), -3);
    is.due("12 no day still goes", x.pass(0), 9999);
    is.due("12 back", x.of(0, 4), 9999);
    x.plan(0, 0);
    x.plan(0, 0);
    is.due("20 back beyond 9999", x.ends(1), 20002);
    is.due("20 it stays", x.of(0, 4), 9999);
    x.learn(1, 0b11);
    is.due("13 days beyond 9999", x.on(2, 0), 1);
    is.due("13 days beyond 9999", x.on(2, 1), 2);
    is.due("13 the bridge of day 9999", text(x, "press 1 d=9;press 2 d=0"), 0);
    x.worth(1, 0);
    x.worth(0, 0);
    is.due("11 comes beyond 9999", x.told(31), 2);
  }

  private static void p13on() {
    Face x = with(1, 9, 0b11, "");
    x.one(0, 0, 0b100);
    is.due("13 none goes", x.on(0, 0), 0);
    is.due("13 taken", x.on(1, 0), 0b101);
    is.due("13 heard", x.on(1, 1), 0);
    is.due("13 heard then", x.on(2, 1), 0b010);
    is.due("13 beyond", x.on(1, 2), 0b11);
    is.due("13 has", x.on(1, 10), 0b10);
    is.due("13 has", x.on(0, 11), 0b100);
    is.due("13 has", x.on(60, 10), 0);
    is.due("13 bad", x.on(-1, 0), -2);
    is.due("13 bad", x.on(61, 11), -2);
    for (int what : new int[] {-1, 3, 9, 12, 16, LOW, HIGH}) is.due("13 none first", x.on(61, what), -1);
    is.due("13 nothing changed", x.told(0) + x.told(2) + x.told(4), 0);
    is.due("13 nothing changed", x.of(0, 2), 0b11);
    Face y = with(1, 3, 0b1, "hold 12 s=0");
    y.ford(0, true);
    is.due("13 a poet's v counts", y.on(1, 1), 1);
  }

  private static void p14decoy() {
    Face x = with(0, 0, 0b0110, "");
    worths(x, 4, 6, 4, 6, 7, 9);
    is.due("14 4 and 5 would be, 4 is less", x.decoy(0, 1), 0b10000);
    is.due("14 it is not the tip", x.decoy(0, 2), 0);
    is.due("14 it does not have it", x.decoy(0, 5), -5);
    x.worth(4, 6);
    x.worth(0, 6);
    is.due("14 a tie ahead of it", x.decoy(0, 1), 1);
    x.worth(0, 4);
    x.worth(5, 6);
    is.due("14 a tie behind it is none", x.decoy(0, 1), -5);
    x.worth(1, 0);
    x.worth(2, 0);
    is.due("14 it has no tip: another is", x.decoy(0, 1), 1);
    x.worth(2, 1);
    is.due("14 the other is its tip already", x.decoy(0, 1), 0);
    int[][] wrong = {{-1, 0}, {1, 0}, {0, -1}, {0, 12}};
    for (int[] w : wrong) is.due("14 none", x.decoy(w[0], w[1]), -1);
    Face y = with(3, 0, 0b001, "");
    worths(y, 1, 2, 3);
    is.due("14 a lover: 1 is too little with two", y.decoy(0, 0), 0b100);
  }

  private static void p15see() {
    Face x = with(0, 0, 1, "");
    is.due("15 person", x.see(1, 0), -1);
    is.due("15 person", x.see(-2, 0), -1);
    is.due("15 sentence", x.see(0, 12), -1);
    is.due("15 sentence", x.see(0, -2), -1);
    for (int i = 1; i <= 5; i++) is.due("15 how many", x.see(0, i == 3 ? -1 : 11), i);
    is.due("15 full", x.see(0, 0), -4);
    is.due("15 none ahead of full", x.see(0, 12), -1);
    is.due("15 none then, whatever the sentence", x.see(-1, 99), 0);
    is.due("15 counted", x.count(2), 0);
    is.due("15 the first again", x.see(0, 0), 1);
  }

  private static void p16can() {
    Face x = with(1, 0, 0b11, "press 3 v>5&s=1;press 1 v=8&s=0");
    x.one(0, 0, 1);
    is.due("16 untold", x.can(0, 0), 10);
    is.due("16 untold, the least", x.can(0, 1), 0);
    x.see(0, 1);
    is.due("16 how many: 6 to 9", x.can(0, 0), 4);
    is.due("16 the least", x.can(0, 1), 6);
    x.see(1, 5);
    is.due("16 of the other nothing counts", x.can(0, 0), 4);
    is.due("16 of that one none", x.can(1, 0), 0);
    is.due("16 of that one the least", x.can(1, 1), -5);
    x.see(0, 0);
    is.due("16 told unlike", x.can(0, 0), 0);
    x.see(-1, 0);
    x.see(0, -1);
    is.due("16 none", x.can(0, 1), -5);
    is.due("16 another", text(x, "hold 15 s<2"), 1);
    is.due("16 none of any v", x.can(0, 0), 10);
    x.ford(0, true);
    is.due("16 beyond, v more: 0 to 5 leave none", x.can(0, 0), 6);
    int[][] wrong = {{-1, 0}, {2, 0}, {0, -1}, {0, 2}};
    for (int[] w : wrong) is.due("16 none", x.can(w[0], w[1]), -1);
    is.due("16 v stays", x.of(0, 1), 0);
  }

  private static void odds(Face x, String why, int above, int below) {
    is.due("17 " + why + ", above", x.odds(0, 0), above);
    is.due("17 " + why + ", below", x.odds(0, 1), below);
  }

  private static void p17odds() {
    Face x = with(0, 0, 0b0010, "");
    worths(x, 4, 6, 4, 7, 8, 9);
    odds(x, "3, 4, 5 of twelve", 1, 4);
    worths(x, 6, 6, 6);
    odds(x, "a tie ahead", 1, 12);
    worths(x, 1, 6);
    odds(x, "none", 0, 1);
    x.learn(0, 0);
    odds(x, "one, there having been none", 1, 6);
    for (int s = 0; s < 12; s++) x.worth(s, 10);
    odds(x, "any", 1, 1);
    Face y = with(3, 0, 0b0001, "");
    worths(y, 2, 1, 1, 7);
    odds(y, "a lover's tip that is lost is no other one", 1, 12);
    is.due("17 no", x.odds(1, 0), NO);
    is.due("17 no", x.odds(-1, 1), NO);
    is.due("17 no", x.odds(0, 2), NO);
    is.due("17 no", x.odds(0, -1), NO);
  }

  private static void p18mean() {
    Face x = with(0, 0, 0b1111, "");
    worths(x, 8, 7, 5, 2);
    x.ford(0, true);
    is.due("18 none yet", x.mean(0, 0), NO);
    int[] above = {8, 15, 20, 11}, below = {1, 2, 3, 2};
    for (int n = 1; n <= 4; n++) {
      is.due("18 above", x.mean(n, 0), above[n - 1]);
      is.due("18 below", x.mean(n, 1), below[n - 1]);
    }
    is.due("18 all", x.mean(60, 0), 11);
    is.due("18 n", x.mean(61, 0), NO);
    is.due("18 n", x.mean(-1, 0), NO);
    is.due("18 part", x.mean(1, 2), NO);
    is.due("18 part", x.mean(1, -1), NO);
    x.pass(2);
    worths(x);
    is.due("18 nothing, above", x.mean(0, 0), 0);
    is.due("18 nothing, below", x.mean(0, 1), 1);
  }

  private static void p19plan() {
    Face x = with(0, 0, 0, "");
    is.due("19 what", x.plan(4, 0), -1);
    is.due("19 what", x.plan(-2, 0), -1);
    is.due("19 person", x.plan(1, 1), -1);
    is.due("19 person", x.plan(2, -1), -1);
    is.due("19 sentence", x.plan(3, 12), -1);
    is.due("19 sentence", x.plan(3, -1), -1);
    is.due("19 a day, any n", x.plan(0, LOW), 1);
    is.due("19 beyond", x.plan(1, 0), 2);
    is.due("19 not", x.plan(2, 0), 3);
    is.due("19 let go", x.plan(3, 11), 4);
    for (int i = 5; i <= 10; i++) is.due("19 how many", x.plan(0, i), i);
    is.due("19 full", x.plan(0, 0), -4);
    is.due("19 none ahead of full", x.plan(3, 12), -1);
    is.due("19 empty", x.plan(-1, 99), 0);
    is.due("19 counted", x.count(3), 0);
  }

  private static void p20ends() {
    Face x = with(0, 0, 0b011, "");
    x.one(0, 0, 0b1100);
    x.one(0, 0, 0);
    worths(x, 9, 8, 7, 6);
    is.due("20 no plan", x.ends(0), 0);
    x.plan(1, 0);
    x.plan(3, 2);
    x.plan(0, 0);
    is.due("20 one was put beyond; 2 was not taken yet", x.ends(0), 0b0001);
    x.plan(3, 2);
    is.due("20 it is now", x.ends(0), 0b0101);
    x.plan(0, 0);
    is.due("20 and the next", x.ends(0), 0b1111);
    is.due("20 back", x.ends(1), 2);
    x.plan(2, 1);
    x.plan(0, 0);
    is.due("20 one is not beyond any more and is turned back", x.ends(1), 4);
    is.due("20 nothing changed", x.told(0) + x.told(2) + x.told(3) + x.told(4), 0);
    is.due("20 none", x.ends(-1), -1);
    is.due("20 none", x.ends(2), -1);
    x.plan(-1, 0);
    x.pass(2);
    is.due("20 goes on from how all is", x.ends(1), 2);
  }

  private static void p21book() {
    Face x = fresh();
    is.due("21 none", x.book(12, 21), -1);
    is.due("21 none", x.book(-2, 0), -1);
    is.due("21 bad", x.book(0, 21), -2);
    is.due("21 bad", x.book(0, -1), -2);
    for (int i = 1; i <= 8; i++) is.due("21 how many", x.book(11, 20), i);
    is.due("21 full", x.book(0, 0), -4);
    is.due("21 bad ahead of full", x.book(0, 21), -2);
    is.due("21 empty", x.book(-1, 99), 0);
    is.due("21 counted", x.count(4), 0);
  }

  private static void p22looked() {
    Face x = fresh();
    is.due("22 none", x.looked(), -5);
    x.book(3, 10);
    x.book(4, 10);
    x.book(3, 10);
    x.book(5, 0);
    is.due("22 the last row", x.looked(), 3);
    x.worth(5, 0);
    is.due("22 all so", x.looked(), -5);
    x.worth(3, 11);
    is.due("22 the first row", x.looked(), 0);
    x.worth(3, 10);
    x.worth(4, 9);
    is.due("22 the second", x.looked(), 1);
  }

  private static void p23judge() {
    Face x = fresh();
    worths(x, 0, 1, 2, 3, 4, 5, 6, 7, 8, 9, 10, 11);
    is.due("23 none", x.judge(-1, 0), -1);
    is.due("23 none", x.judge(6, 0), -1);
    is.due("23 nothing", x.judge(5, 0), 100);
    for (int sort : new int[] {0, 1, 2, 4}) {
      x.tape(5, sort, 20);
      is.due("23 cast", x.judge(5, -1), -12);
    }
    x.tape(5, 3, 20);
    is.due("23 the second", x.judge(5, 0), 1);
    for (int s = 0; s < 12; s++) x.item(5, 8 + s, s);
    is.due("23 all", x.judge(5, 8), -5);
    is.due("23 from a place behind", x.judge(5, 9), 0);
    x.item(5, 19, 11 + (1L << 32));
    is.due("23 the last, by a long", x.judge(5, 8), 11);
    is.due("23 below 0", x.judge(5, -1), 100);
    is.due("23 below 0", x.judge(5, LOW), 100);
    is.due("23 at the end", x.judge(5, 20), 100);
    is.due("23 far beyond", x.judge(5, HIGH), 100);
    x.tape(4, 3, 5);
    x.item(4, 3, 0);
    x.item(4, 4, 1);
    is.due("23 two were looked at", x.judge(4, 3), 102);
    x.tape(4, 3, 0);
    is.due("23 an empty row", x.judge(4, 0), 100);
  }

  private static void p24image() {
    Face x = with(6, 5, 0b111, "press 1 p=0;free 2");
    x.one(5, 4, 0);
    x.row(0, 1, 4);
    x.worth(0, 7);
    x.pass(3);
    x.see(0, 1);
    x.plan(0, 0);
    x.book(0, 7);
    is.due("24 how many", x.image(), 2);
    long[] before = all(x);
    x.one(1, 1, 1);
    x.row(0, 1, 9);
    x.worth(0, 19);
    x.learn(0, 4095);
    x.ford(1, true);
    x.pass(9);
    x.see(1, 3);
    x.plan(3, 3);
    x.book(3, 3);
    is.due("24 another bridge", text(x, "free 9"), 1);
    x.tape(2, 2, 2);
    x.act(0, 2, 2);
    x.feed(65);
    for (int times = 0; times < 2; times++) {
      is.due("25 how many", x.undo(), 2);
      long[] then = all(x);
      for (int i = 0; i < before.length; i++) is.due("25 all is as it was, " + i, then[i], before[i]);
      is.due("25 the bridges stay", x.count(1), 2);
      is.due("25 the text stays", x.count(5), 1);
      is.due("25 the trace stays", x.count(6), 12);
      is.due("25 the tapes stay", x.read(2, 1), 0);
      x.see(-1, 0);
      x.plan(-1, 0);
      x.book(-1, 0);
      x.learn(1, 77);
      x.row(0, 1, 0);
    }
    is.due("24 a newer image", x.image(), 2);
    x.learn(1, 1);
    x.undo();
    is.due("25 it is the newer one", x.of(1, 2), 77);
    is.due("25 a new one of another kind", x.one(2, 1, 1), 2);
    x.undo();
    is.due("25 and another instead", x.one(6, 1, 3), 2);
    is.due("25 with a row of its own", x.row(2, 0, 4), 0);
    is.due("25 is asked as that", x.on(0, 12), 3);
    is.due("25 its urge", x.urge(2, 0), 19 - 12 - 2 + 4);
    nobodyKept();
  }

  private static void nobodyKept() {
    Face x = fresh();
    is.due("25 state", x.undo(), -3);
    is.due("24 nobody", x.image(), 0);
    x.one(0, 0, 1);
    is.due("25 a bridge", text(x, "free 1"), 0);
    is.due("25 nobody", x.undo(), 0);
    is.due("25 nobody", x.of(0, 0), -1);
    is.due("25 no bridge holds", x.told(1), 0);
    is.due("25 the next number", text(x, "free 2"), 1);
  }

  /** All that THE IMAGE holds, as far as it is asked. */
  private static long[] all(Face x) {
    long[] all = new long[80];
    int n = 0;
    for (int what = 0; what <= 4; what++) all[n++] = x.told(what);
    for (int s = 0; s < 12; s++) all[n++] = x.told(10 + s);
    for (int p = 0; p < 3; p++) {
      for (int what = 0; what <= 8; what++) all[n++] = x.of(p, what);
      for (int s = 0; s < 4; s++) all[n++] = x.urge(p, s);
    }
    for (int what : new int[] {0, 2, 3, 4}) all[n++] = x.count(what);
    all[n++] = x.ends(0);
    all[n++] = x.ends(1);
    all[n++] = x.looked();
    all[n++] = x.told(50);
    return all;
  }

  private static void act(Face x, int p, int act, int arg, int due, int... bodies) {
    String call = "26 act(" + p + ", " + act + ", " + arg + ")";
    is.due(call, x.act(p, act, arg), due);
    is.due(call + " ran", x.count(6), bodies.length);
    for (int i = 0; i < bodies.length; i++) is.due("27 " + call + " body " + i, x.trace(i), bodies[i]);
    is.due("27 behind it", x.trace(bodies.length), -1);
    is.due("27 ahead of it", x.trace(-1), -1);
  }

  private static void p26act() {
    Face x = fresh();
    int[] kinds = {1, 0, 2, 3, 4, 5};
    for (int i = 0; i < 6; i++) x.one(kinds[i], 3 + i, 0);
    act(x, 1, 0, 10, 11, 10);
    act(x, 1, 1, 10, 7, 11, 10);
    act(x, 1, 2, 10, 14, 12, 11, 10);
    act(x, 0, 0, 10, 10, 10);
    act(x, 0, 1, 10, 7 ^ 6, 20, 11, 10);
    act(x, 0, 2, 10, (7 ^ 6) * 2, 12, 20, 11, 10);
    act(x, 2, 0, 10, 32, 30, 10);
    act(x, 2, 1, 10, 27, 11, 30, 10);
    act(x, 2, 2, 10, 54, 12, 11, 30, 10);
    act(x, 3, 2, 10, (13 - 6) * 2 + (4 - 6), 40, 12, 11, 10, 11, 10);
    act(x, 4, 0, 10, -14, 50, 10);
    act(x, 4, 1, 10, (-15 - 7) ^ 6, 51, 20, 11, 50, 10);
    act(x, 4, 2, 10, ((-15 - 7) ^ 6) * 2, 12, 51, 20, 11, 50, 10);
    act(x, 5, 2, 10, (5 * 3 + 5 - 8) * 2, 60, 12, 11, 30, 10);
    act(x, 5, 0, 1, 8, 30, 10);
    act(x, 1, 0, HIGH, LOW, 10);
    act(x, 1, 2, HIGH, (LOW - 4) * 2, 12, 11, 10);
    for (int[] w : new int[][] {{6, 0}, {-1, 0}, {0, 3}, {0, -1}}) {
      act(x, 1, 0, 10, 11, 10);
      act(x, w[0], w[1], 5, 0);
    }
    Face y = with(0, 0, 0, "");
    y.one(6, 5, 0);
    int mutters = 11 ^ 5, says = mutters - 5 + 3, saysOne = (2 ^ 5) - 5 + 3;
    act(y, 1, 0, 10, mutters, 71, 10);
    act(y, 1, 1, 10, says, 70, 11, 71, 10, 10);
    act(y, 1, 2, 10, says * 2 + saysOne, 40, 12, 70, 11, 71, 10, 10, 70, 11, 71, 10, 10);
  }

  private static void p28taken() {
    Face x = fresh();
    for (int i = 0; i < 6; i++) x.one(i + 1, 0, 0);
    String[] line = {"01", "02", "03", "014", "025", "036"};
    for (int p = 0; p < 6; p++) {
      for (int k = 0; k < 7; k++) {
        is.due("28 " + p + " for " + k, x.taken(p, k), line[p].indexOf('0' + k) >= 0 ? p + 1 : -12);
      }
    }
    is.due("28 bad ahead of nothing", x.taken(9, 7), -2);
    is.due("28 bad", x.taken(0, -1), -2);
    is.due("28 nothing", x.taken(6, 0), -11);
    is.due("28 nothing", x.taken(-1, 0), -11);
    Face y = with(0, 0, 0, "");
    is.due("28 one", y.taken(0, 0), 0);
    is.due("28 one is no poet", y.taken(0, 1), -12);
  }

  private static void p29count() {
    Face x = with(0, 0, 0, "free 1");
    x.one(0, 0, 0);
    for (int i = 0; i < 3; i++) x.see(0, 0);
    for (int i = 0; i < 4; i++) x.plan(0, 0);
    for (int i = 0; i < 5; i++) x.book(0, 0);
    for (int i = 0; i < 6; i++) x.feed('x');
    x.act(0, 2, 0);
    int[] due = {2, 1, 3, 4, 5, 6, 3};
    for (int what = 0; what <= 6; what++) is.due("29 what " + what, x.count(what), due[what]);
    for (int what : new int[] {-1, 7, LOW, HIGH}) is.due("29 bad", x.count(what), -2);
  }

  private static void p30tape() {
    Face x = fresh();
    is.due("30 none first", x.tape(6, 9, 99), -1);
    is.due("30 none", x.tape(-1, 0, 0), -1);
    is.due("30 sort", x.tape(0, 5, -1), -2);
    is.due("30 sort", x.tape(0, -2, 0), -2);
    is.due("30 n", x.tape(0, 0, 61), -2);
    is.due("30 size", x.tape(0, 0, -1), -14);
    is.due("30 nothing is there still", x.item(0, 0, 0), -11);
    long v = 0x123456789ABCDEF0L;
    long[] due = {(byte) 0xF0, (short) 0xDEF0, 0x9ABCDEF0, v, 1};
    for (int sort = 0; sort <= 4; sort++) {
      is.due("30 made", x.tape(sort, sort, 60), 1);
      is.due("32 all 0", x.read(sort, 59), 0);
      is.due("31 item", x.item(sort, 59, v), 1);
      is.due("32 read", x.read(sort, 59), due[sort]);
      is.due("31 place", x.item(sort, 60, v), -13);
      is.due("31 place", x.item(sort, -1, v), -13);
      is.due("32 place", x.read(sort, 60), NO);
      is.due("32 place", x.read(sort, -1), NO);
      x.item(sort, 59, 0x100000000L * 3);
      is.due("32 read", x.read(sort, 59), sort == 3 ? 0x300000000L : sort == 4 ? 1 : 0);
      x.item(sort, 59, 0);
      is.due("32 read", x.read(sort, 59), 0);
      x.item(sort, 0, 1);
      is.due("30 made anew", x.tape(sort, sort, 1), 1);
      is.due("30 all 0 again", x.read(sort, 0), 0);
      is.due("30 shorter", x.item(sort, 1, 0), -13);
      is.due("30 a wrong one changes nothing", x.tape(sort, sort, 61), -2);
      is.due("30 it is as it was", x.item(sort, 0, 0), 1);
    }
    is.due("30 nothing, any n", x.tape(0, -1, 99), 1);
    is.due("32 nothing", x.read(0, 0), NO);
    is.due("30 nothing, any n", x.tape(0, -1, -99), 1);
    is.due("31 nothing", x.item(0, 0, 0), -11);
    is.due("32 nothing", x.read(0, 0), NO);
    is.due("31 none", x.item(6, 0, 0), -1);
    is.due("31 none", x.item(-1, 0, 0), -1);
    is.due("32 none", x.read(6, 0), NO);
    is.due("32 none", x.read(-1, 0), NO);
    is.due("30 an empty row", x.tape(0, 4, 0), 1);
    is.due("31 place, no longer nothing", x.item(0, 0, 0), -13);
  }

  private static void p33shift() {
    Face x = fresh();
    x.tape(0, 2, 6);
    x.tape(1, 2, 4);
    x.tape(2, 3, 4);
    for (int i = 0; i < 6; i++) x.item(0, i, 10 + i);
    is.due("33 forward", x.shift(0, 0, 0, 2, 4), 4);
    row(x, 0, 10, 11, 10, 11, 12, 13);
    is.due("33 backward", x.shift(0, 1, 0, 0, 5), 5);
    row(x, 0, 11, 10, 11, 12, 13, 13);
    is.due("33 to another", x.shift(0, 3, 1, 1, 3), 3);
    row(x, 1, 0, 12, 13, 13);
    is.due("33 none of them, at the ends", x.shift(0, 6, 1, 4, 0), 0);
    is.due("33 none first", x.shift(6, -1, 3, 0, 0), -1);
    is.due("33 none", x.shift(3, 0, -1, 0, 0), -1);
    is.due("33 nothing there", x.shift(0, -1, 3, 0, 0), -11);
    is.due("33 nothing here", x.shift(3, 0, 2, 0, 0), -11);
    is.due("33 cast", x.shift(0, -1, 2, 0, 99), -12);
    int[][] places = {{-1, 0, 1}, {0, -1, 1}, {0, 0, -1}, {6, 0, 1}, {7, 0, 0}, {0, 5, 0}, {3, 0, 4}, {0, 1, 4},
        {HIGH, 0, 1}, {1, 0, HIGH}, {0, HIGH, HIGH}, {LOW, 0, 0}, {0, LOW, LOW}};
    for (int[] p : places) is.due("33 place " + p[0] + " " + p[1] + " " + p[2], x.shift(0, p[0], 1, p[1], p[2]), -13);
    row(x, 0, 11, 10, 11, 12, 13, 13);
    row(x, 1, 0, 12, 13, 13);
  }

  private static void row(Face x, int tape, long... due) {
    for (int i = 0; i < due.length; i++) is.due("33 tape " + tape + " at " + i, x.read(tape, i), due[i]);
  }
}
