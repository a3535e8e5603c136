/** Boundary cases of promises 23 to 33, and of the Terms, part 3: judging, THE IMAGE, acts, tapes. */
final class TapeEdges extends Edges {
  private static final int[] NOBODY = PeopleEdges.NOBODY;
  private static final int[] NO_TAPE = {-1, 6, LOW, HIGH};

  TapeEdges() {
    judge();
    image();
    kept();
    act();
    taken();
    count();
    tape();
    item();
    sorts();
    read();
    shift();
    shifted();
  }

  /** A TAPE of longs that tells all WORTHS as they are from a place on. */
  private Face judged(int size, int from) {
    Face x = fresh();
    for (int s = 0; s < 12; s++) x.worth(s, 20 - s);
    is(x.tape(5, 3, size), 1);
    for (int s = 0; s < 12 && from + s < size; s++) x.item(5, from + s, 20 - s);
    return x;
  }

  private void judge() {
    edge(TERMS, "is JUDGED: the first that is otherwise", "the first and the last")
        .broken("judge", "looked < 12", "looked < 11")
        .broken("judge", "return looked;", "return looked + 1;")
        .by(() -> {
          Face x = judged(60, 48);
          x.item(5, 59, 8);
          is(x.judge(5, 48), 11);
          x.item(5, 48, -20);
          is(x.judge(5, 48), 0);
        });
    edge(TERMS, "is JUDGED: the first that is otherwise", "as longs")
        .broken("judge", "row[(int) at] != worths[looked]", "(int) row[(int) at] != worths[looked]")
        .by(() -> {
          Face x = judged(12, 0);
          x.item(5, 3, 17 + (1L << 32));
          is(x.judge(5, 0), 3);
        });
    edge(TERMS, "-5: none; 100 and how many were looked at", "none").broken("judge", "return -5", "return 112").by(() -> {
      is(judged(60, 48).judge(5, 48), -5);
      is(judged(12, 0).judge(5, 0), -5);
    });
    edge(TERMS, "100 and how many were looked at, if the row ends ahead of that")
        .broken("judge", "return 100 + looked", "return 100")
        .broken("judge", "at >= row.length", "at > row.length")
        .by(() -> {
          is(judged(11, 0).judge(5, 0), 111);
          is(judged(60, 49).judge(5, 49), 111);
          is(judged(60, 59).judge(5, 59), 101);
          is(judged(60, 0).judge(5, 60), 100);
          is(judged(60, 0).judge(5, 61), 100);
          is(judged(60, 0).judge(5, HIGH), 100);
          is(judged(0, 0).judge(5, 0), 100);
        });
    edge(TERMS, "(or the place is below 0").broken("judge", "if (i < 0) return 100;", "if (i < 0) return -13;").by(() -> {
      Face x = judged(12, 0);
      is(x.judge(5, -1), 100);
      is(x.judge(5, LOW), 100);
    });
    edge(TERMS, "or the TAPE holds nothing)")
        .broken("judge", "if (tapes[tape] == null) return 100;", "if (tapes[tape] == null) return -11;")
        .by(() -> {
          Face x = judged(12, 0);
          is(x.judge(0, 0), 100);
          is(x.judge(0, -1), 100);
          x.tape(5, -1, 0);
          is(x.judge(5, 0), 100);
        });
    edge(23, "NONE: tape").broken("judge", "tape < 0", "tape < -1").broken("judge", "tape > 5", "tape > 6").by(() -> {
      for (int t : NO_TAPE) is(judged(12, 0).judge(t, 0), -1);
    });
    edge(23, "CAST: it is no row of longs")
        .broken("judge", "return -12", "return 100")
        .broken("judge", "if (!(tapes[tape] instanceof long[])) return -12;", "if (length(tapes[tape]) == 0) return 100; if (!(tapes[tape] instanceof long[])) return -12;")
        .by(() -> {
          for (int sort : new int[] {0, 1, 2, 4}) {
            Face x = fresh();
            x.tape(0, sort, 12);
            is(x.judge(0, 0), -12);
            x.tape(0, sort, 0);
            is(x.judge(0, 0), -12);
          }
        });
    edge(23, "CAST: it is no row of longs", "whatever the place")
        .broken("judge", "if (!(tapes[tape]", "if (i < 0) return 100; if (!(tapes[tape]")
        .by(() -> {
          Face x = fresh();
          x.tape(0, 2, 12);
          is(x.judge(0, -1), -12);
          is(x.judge(0, 60), -12);
        });
  }

  private void image() {
    edge(24, "how many PEOPLE there are", "none, and six")
        .broken("image", "return people.size()", "return people.size() % 6")
        .broken("image", "return people.size()", "return people.isEmpty() ? -3 : people.size()")
        .by(() -> {
          Face x = fresh();
          is(x.image(), 0);
          for (int p = 0; p < 6; p++) x.one(0, 0, 0);
          is(x.image(), 6);
        });
    edge(25, "STATE: there is none").broken("undo", "return -3", "return -11").by(() -> {
      Face x = with(0, 0, 1);
      is(x.undo(), -3);
      is(x.count(0), 1);
      x.image();
      is(x.undo(), 1);
    });
    edge(25, "All is as THE IMAGE: how many PEOPLE", "nobody")
        .broken("undo", "return people.size()", "return people.isEmpty() ? -3 : people.size()")
        .by(() -> {
          Face x = fresh();
          x.image();
          for (int p = 0; p < 6; p++) x.one(0, 0, 0);
          is(x.undo(), 0);
          is(x.of(0, 0), -1);
          is(x.one(3, 0, 0), 0);
        });
    edge(25, "All is as THE IMAGE: how many PEOPLE", "again and again")
        .broken("undo", "become(kept);", "become(kept); kept = null;")
        .broken("undo", "become(kept);", "people = kept.people; worths = kept.worths;")
        .by(() -> {
          Face x = with(0, 0, 1);
          x.image();
          for (int i = 0; i < 3; i++) {
            is(x.learn(0, 2), 1);
            is(x.worth(0, 3), 10);
            is(x.undo(), 1);
          }
        });
    edge(24, "THE IMAGE is taken", "the newer one counts")
        .broken("image", "kept = new Model(this)", "if (kept == null) kept = new Model(this)")
        .by(() -> {
          Face x = with(0, 0, 1);
          x.image();
          x.learn(0, 2);
          x.image();
          x.learn(0, 4);
          x.undo();
          is(x.of(0, 2), 2);
        });
  }

  private void kept() {
    edge(TERMS, "THE IMAGE: WORTHS, TAKEN, HEARD")
        .broken("become", "worths = m.worths.clone();", "worths = m.worths;")
        .broken("become", "takenSet = m.takenSet;", "takenSet |= m.takenSet;")
        .broken("become", "heardSet = m.heardSet;", "heardSet |= m.heardSet;")
        .by(() -> {
          Face x = with(0, 0, 0b11);
          x.image();
          x.worth(11, 20);
          x.pass(2);
          is(x.told(2), 0b01);
          is(x.told(3), 0b10);
          x.undo();
          is(x.told(21), 10);
          is(x.told(2), 0);
          is(x.told(3), 0);
        });
    edge(TERMS, "PEOPLE with all that is theirs")
        .broken("", "c.row = row.clone();", "c.row = row;")
        .broken("", "c.back = back;", "")
        .broken("", "c.beyond = beyond;", "")
        .broken("", "c.v = v;", "")
        .broken("", "c.has = has;", "")
        .broken("", "c.kind = kind;", "")
        .by(() -> {
          Face x = with(6, 9, 0b11);
          x.row(0, 3, 9);
          x.one(5, 7, 0);
          x.pass(4);
          x.ford(1, true);
          x.learn(0, 0b1010);
          x.image();
          x.row(0, 3, 1);
          x.learn(0, 4095);
          x.ford(0, false);
          x.ford(1, false);
          x.pass(4);
          is(x.undo(), 2);
          is(x.of(0, 0), 6);
          is(x.of(0, 1), 9);
          is(x.of(0, 2), 0b1010);
          is(x.of(0, 3), 1);
          is(x.row(0, 3, 0), 9);
          is(x.of(1, 0), 5);
          is(x.of(1, 1), 7);
          is(x.of(1, 3), 1);
          is(x.of(1, 4), 4);
        });
    edge(TERMS, "PEOPLE with all that is theirs", "another comes instead").broken("become", "people = new ArrayList<>();", "").by(() -> {
      Face x = with(0, 0, 1);
      x.image();
      is(x.one(6, 1, 2), 1);
      x.row(1, 0, 9);
      is(x.on(0, 11), 2);
      x.undo();
      is(x.of(1, 0), -1);
      is(x.on(0, 11), -1);
      is(x.one(6, 3, 4), 1);
      is(x.row(1, 0, 0), 0);
      is(x.on(0, 11), 4);
      x.undo();
      is(x.one(2, 3, 8), 1);
      is(x.row(1, 0, 0), -3);
      is(x.on(0, 11), 8);
    });
    edge(TERMS, "PEOPLE with all that is theirs", "what is asked goes by the new one's")
        .broken("", "c.v = v;", "c.v = 9;")
        .broken("", "c.kind = kind;", "c.kind = 1;")
        .by(() -> {
          Face x = with(0, 0, 0);
          worths(x, 2, 2);
          is(bridge(x, "hold 5 p=1"), 0);
          x.image();
          int[][] comers = {{1, 9, 1}, {1, 3, 0}, {1, 4, 1}, {4, 2, 0}, {3, 9, 0}, {6, 9, 1}, {2, 9, 0}, {1, 8, 1}};
          for (int[] c : comers) {
            is(x.one(c[0], c[1], 1), 1);
            x.ford(1, true);
            x.row(1, 0, 9);
            is(x.on(1, 1), c[2]);
            is(x.on(1, 11), 1 - c[2]);
            is(x.undo(), 1);
          }
        });
    edge(TERMS, "DAY, SEEN, the PLAN, the BOOK")
        .broken("become", "day = m.day;", "")
        .broken("become", "seen = new ArrayList<>(m.seen);", "")
        .broken("become", "planned = new ArrayList<>(m.planned);", "")
        .broken("become", "booked = new ArrayList<>(m.booked);", "")
        .by(() -> {
          Face x = with(0, 0, 1);
          x.see(0, 5);
          x.plan(0, 0);
          x.plan(3, 0);
          x.book(0, 9);
          x.book(1, 10);
          x.book(2, 10);
          x.image();
          x.pass(7);
          x.see(-1, 0);
          x.plan(-1, 0);
          x.book(-1, 0);
          x.undo();
          is(x.told(0), 0);
          is(x.count(2), 1);
          is(x.of(0, 7), 64);
          is(x.count(3), 2);
          is(x.ends(0), 1);
          is(x.count(4), 3);
          is(x.looked(), 0);
          x.see(0, 1);
          x.undo();
          is(x.count(2), 1);
        });
    edge(TERMS, "which BRIDGE holds.").broken("become", "held = m.held;", "").by(() -> {
      Face x = with(0, 0, 1);
      is(bridge(x, "free 3;press 2 p=0"), 0);
      x.image();
      is(bridge(x, "free 4"), 1);
      x.undo();
      is(x.told(1), 3);
      is(x.urge(0, 0), 12);
      is(x.count(1), 2);
      is(bridge(x, "free 5"), 2);
      is(x.told(1), 5);
    });
    edge(TERMS, "which BRIDGE holds.", "none did").broken("become", "held = m.held;", "if (m.held >= 0) held = m.held;").by(() -> {
      Face x = with(0, 0, 1);
      x.image();
      is(bridge(x, "free 3;press 2 p=0"), 0);
      x.undo();
      is(x.told(1), 0);
      is(x.urge(0, 0), 10);
      is(x.count(1), 1);
    });
    edge(25, "All is as THE IMAGE", "THE TEXT, BRIDGES, THE TRACE, TAPES are none of it")
        .broken("undo", "become(kept);", "become(kept); text = \"\";")
        .broken("undo", "become(kept);", "become(kept); bodies.clear();")
        .broken("undo", "become(kept);", "become(kept); tapes[0] = null;")
        .broken("undo", "become(kept);", "become(kept); while (bridges.size() > 1) bridges.remove(1);")
        .by(() -> {
          Face x = with(0, 0, 1);
          is(bridge(x, "free 1"), 0);
          x.image();
          is(bridge(x, "free 2"), 1);
          x.feed('f');
          x.act(0, 1, 1);
          x.tape(0, 0, 1);
          x.item(0, 0, 5);
          x.undo();
          is(x.count(5), 1);
          is(x.trace(1), 10);
          is(x.read(0, 0), 5);
          is(x.count(1), 2);
        });
  }

  private void act() {
    edge(26, "0, and no TRACE then: no such one, act", "no such one")
        .broken("act", "if (!isPerson(person) ||", "if (person != 0) return -1; if (")
        .broken("act", "bodies = new ArrayList<>();", "if (!isPerson(person)) return 0; bodies = new ArrayList<>();")
        .by(() -> {
          Face x = with(0, 0, 1);
          for (int p : NOBODY) {
            is(x.act(0, 0, 7), 7);
            is(x.act(p, 0, 7), 0);
            is(x.count(6), 0);
            is(x.trace(0), -1);
          }
        });
    edge(26, "0, and no TRACE then: no such one, act", "no such act")
        .broken("act", "act < 0", "act < -1")
        .broken("act", "act > 2", "act > 3")
        .broken("act", "return 0;", "return -1;")
        .by(() -> {
          Face x = with(0, 0, 1);
          for (int act : new int[] {-1, 3, LOW, HIGH}) {
            is(x.act(0, 2, 7), 14);
            is(x.act(0, act, 7), 0);
            is(x.count(6), 0);
            is(x.trace(0), -1);
          }
        });
    edge(27, "THE TRACE's i-th body. NONE.")
        .broken("trace", "i < 0", "i < -1")
        .broken("trace", "i >= bodies.size()", "i > bodies.size()")
        .by(() -> {
          Face x = with(0, 0, 1);
          for (int i : new int[] {-1, 0, 19, 20, LOW, HIGH}) is(x.trace(i), -1);
          x.act(0, 2, 0);
          is(x.trace(0), 12);
          is(x.trace(2), 10);
          for (int i : new int[] {-1, 3, 19, 20, LOW, HIGH}) is(x.trace(i), -1);
        });
    edge(TERMS, "the numbers of the bodies that ran in the latest act()").broken("act", "bodies = new ArrayList<>();", "").by(() -> {
      Face x = with(0, 0, 1);
      x.act(0, 2, 0);
      x.act(0, 0, 0);
      is(x.trace(0), 10);
      is(x.trace(1), -1);
      is(x.count(6), 1);
    });
  }

  private void taken() {
    edge(28, "BAD: k", "too small").broken("taken", "k < 0", "k < -1").by(() -> {
      for (int k : new int[] {-1, LOW}) is(with(0, 0, 1).taken(0, k), -2);
    });
    edge(28, "BAD: k", "too large").broken("taken", "k > 6", "k > 7").by(() -> {
      for (int k : new int[] {7, HIGH}) is(with(6, 0, 1).taken(0, k), -2);
    });
    edge(28, "One taken for one of KIND k (0 .. 6)", "the first and the last")
        .broken("taken", "k < 0", "k < 1")
        .broken("taken", "k > 6", "k > 5")
        .by(() -> {
          is(with(0, 0, 1).taken(0, 0), 0);
          is(with(6, 0, 1).taken(0, 6), 6);
        });
    edge(28, "NOTHING: no such one").broken("taken", "if (!isPerson(person)) return -11;", "if (!isPerson(person)) return -1;").by(() -> {
      Face x = with(0, 0, 1);
      for (int p : NOBODY) is(x.taken(p, 0), -11);
      is(fresh().taken(0, 0), -11);
    });
    edge(28, "CAST", "one of another KIND, or of one above")
        .broken("taken", "return -12", "return -11")
        .broken("", "ABOVE = {-1, 0, 0, 0, 1, 2, 3}", "ABOVE = {-1, 0, 0, 0, 1, 1, 3}")
        .by(() -> {
          int[][] not = {{0, 1}, {0, 6}, {1, 2}, {1, 4}, {2, 5}, {3, 6}, {4, 2}, {4, 5}, {5, 1}, {5, 4}, {6, 1}, {6, 2}};
          for (int[] n : not) is(with(n[0], 0, 1).taken(0, n[1]), -12);
        });
    edge(28, "or one under that")
        .broken("taken", "up = ABOVE[up]", "up = up == 0 ? -1 : 0")
        .broken("taken", "if (up == k) return kind", "if (up == k) return k")
        .by(() -> {
          int[][] so = {{1, 0}, {2, 0}, {3, 0}, {4, 0}, {5, 0}, {6, 0}, {4, 1}, {5, 2}, {6, 3}};
          for (int[] s : so) is(with(s[0], 0, 1).taken(0, s[1]), s[0]);
        });
    edge(28, "BAD: k; NOTHING: no such one; CAST.", "in this order")
        .broken("taken", "if (k < 0", "if (!isPerson(person)) return -11; if (k < 0")
        .by(() -> {
          is(fresh().taken(0, 7), -2);
          is(fresh().taken(6, -1), -2);
          is(fresh().taken(6, 6), -11);
        });
  }

  private void count() {
    edge(29, "BAD.").broken("count", "what < 0 || what > 6 ? -2", "what < 0 || what > 6 ? -1").by(() -> {
      for (int what : new int[] {-1, 7, LOW, HIGH}) is(fresh().count(what), -2);
    });
    edge(29, "How many: 0 PEOPLE", "all at their most")
        .broken("count", "people.size(),", "Math.min(5, people.size()),")
        .broken("count", "text.length(),", "Math.min(99, text.length()),")
        .by(() -> {
          Face x = fresh();
          for (int i = 0; i < 6; i++) x.one(6, 0, 0);
          for (int i = 0; i < 6; i++) is(bridge(x, "free 1"), i);
          for (int i = 0; i < 9; i++) x.see(0, 0);
          for (int i = 0; i < 19; i++) x.plan(0, 0);
          for (int i = 0; i < 19; i++) x.book(0, 0);
          for (int i = 0; i < 101; i++) x.feed('x');
          x.act(0, 2, 0);
          int[] due = {6, 6, 5, 10, 8, 100, 12};
          for (int what = 0; what <= 6; what++) is(x.count(what), due[what]);
        });
  }

  private void tape() {
    edge(TERMS, "TAPES 0 .. 5 hold nothing (at first)")
        .broken("", "tapes = new Object[6]", "tapes = {null, null, null, null, null, new byte[1]}")
        .by(() -> {
          Face x = fresh();
          for (int t = 0; t < 6; t++) {
            is(x.read(t, 0), NO);
            is(x.item(t, 0, 1), -11);
            is(x.judge(t, 0), 100);
            is(x.shift(t, 0, t, 0, 0), -11);
          }
        });
    edge(30, "a row of n (0 .. 60) of a sort, all 0", "n is 0")
        .broken("tape", "if (n < 0) return -14;", "if (n < 1) return -14;")
        .broken("tape", "if (sort == -1)", "if (sort == -1 || n == 0)")
        .by(() -> {
          for (int sort = 0; sort <= 4; sort++) {
            Face x = fresh();
            is(x.tape(5, sort, 0), 1);
            is(x.item(5, 0, 0), -13);
            is(x.read(5, 0), NO);
            is(x.shift(5, 0, 5, 0, 0), 0);
          }
        });
    edge(30, "a row of n (0 .. 60) of a sort, all 0", "n is 60").broken("tape", "n > 60", "n > 59").by(() -> {
      for (int sort = 0; sort <= 4; sort++) {
        Face x = fresh();
        is(x.tape(5, sort, 60), 1);
        is(x.read(5, 59), 0);
        is(x.item(5, 59, 1), 1);
        is(x.read(5, 59), 1);
      }
    });
    edge(30, "a row of n (0 .. 60) of a sort, all 0", "anew")
        .broken("tape", "if (n > 60) return -2;", "if (n > 60) return -2; if (tapes[tape] != null && length(tapes[tape]) == n) return 1;")
        .by(() -> {
          Face x = fresh();
          x.tape(0, 3, 3);
          for (int i = 0; i < 3; i++) x.item(0, i, -7);
          is(x.tape(0, 3, 3), 1);
          for (int i = 0; i < 3; i++) is(x.read(0, i), 0);
          x.item(0, 2, 9);
          x.tape(0, 3, 1);
          is(x.read(0, 2), NO);
          x.tape(0, 3, 3);
          is(x.read(0, 2), 0);
        });
    edge(30, "or holds nothing (sort -1: n does not matter): 1")
        .broken("tape", "if (sort == -1) { tapes[tape] = null; return 1; }\n    if (n > 60) return -2;", "if (n > 60) return -2; if (sort == -1) { tapes[tape] = null; return 1; }")
        .broken("tape", "tapes[tape] = null; return 1;", "return 1;")
        .by(() -> {
          Face x = fresh();
          for (int n : new int[] {0, 60, 61, -1, LOW, HIGH}) {
            x.tape(0, 2, 5);
            is(x.tape(0, -1, n), 1);
            is(x.item(0, 0, 0), -11);
            is(x.read(0, 0), NO);
          }
        });
    edge(30, "NONE: tape").broken("tape", "tape < 0", "tape < -1").broken("tape", "tape > 5", "tape > 6").by(() -> {
      for (int t : NO_TAPE) for (int sort : new int[] {-1, 0, 3}) is(fresh().tape(t, sort, 5), -1);
    });
    edge(30, "BAD: sort, n above 60", "sort").broken("tape", "sort < -1", "sort < -2").broken("tape", "sort > 4", "sort > 5").by(() -> {
      for (int sort : new int[] {-2, 5, LOW, HIGH}) is(fresh().tape(0, sort, 5), -2);
    });
    edge(30, "BAD: sort, n above 60", "n").broken("tape", "n > 60", "n > 61").by(() -> {
      for (int sort = 0; sort <= 4; sort++) is(fresh().tape(0, sort, 61), -2);
      is(fresh().tape(0, 0, HIGH), -2);
    });
    edge(30, "SIZE.").broken("tape", "return -14", "return -2").by(() -> {
      for (int sort = 0; sort <= 4; sort++) for (int n : new int[] {-1, LOW}) is(fresh().tape(0, sort, n), -14);
    });
    edge(30, "NONE: tape; BAD: sort, n above 60; SIZE.", "in this order")
        .broken("tape", "if (sort < -1", "if (n < 0) return -14; if (sort < -1")
        .broken("tape", "if (tape < 0", "if (sort > 4) return -2; if (tape < 0")
        .by(() -> {
          is(fresh().tape(6, 5, 61), -1);
          is(fresh().tape(6, 0, -1), -1);
          is(fresh().tape(0, 5, -1), -2);
        });
  }

  private void item() {
    edge(31, "NONE; NOTHING; PLACE.", "no such TAPE")
        .broken("item", "tape < 0", "tape < -1")
        .broken("item", "tape > 5", "tape > 6")
        .by(() -> {
          for (int t : NO_TAPE) is(fresh().item(t, 0, 0), -1);
        });
    edge(31, "NONE; NOTHING; PLACE.", "nothing is there").broken("item", "return -11", "return -13").by(() -> {
      Face x = fresh();
      is(x.item(0, 0, 1), -11);
      is(x.item(5, -1, 1), -11);
    });
    edge(31, "NONE; NOTHING; PLACE.", "no such place")
        .broken("item", "i < 0", "i < -1")
        .broken("item", "i >= length(t)", "i > length(t)")
        .broken("item", "return -13", "return -1")
        .by(() -> {
          Face x = fresh();
          for (int sort = 0; sort <= 4; sort++) {
            x.tape(sort, sort, 3);
            for (int i : new int[] {-1, 3, LOW, HIGH}) is(x.item(sort, i, 1), -13);
            is(x.item(sort, 2, 1), 1);
            is(x.item(sort, 0, 1), 1);
          }
        });
  }

  /** What is read from a row of a sort after a number was put there. */
  private void put(int sort, long v, long due) {
    Face x = fresh();
    x.tape(0, sort, 1);
    is(x.item(0, 0, v), 1);
    is(x.read(0, 0), due);
  }

  private void sorts() {
    String lowest = "(its lowest bits, as many as an item has;";
    edge(31, lowest, "bytes").broken("item", "(byte) v", "(byte) Math.max(-128, Math.min(127, v))").by(() -> {
      long[][] so = {{127, 127}, {128, -128}, {-128, -128}, {-129, 127}, {255, -1}, {256, 0}, {NO, 0}, {Long.MAX_VALUE, -1}};
      for (long[] s : so) put(0, s[0], s[1]);
    });
    edge(31, lowest, "shorts").broken("item", "(short) v", "(short) Math.max(-32768, Math.min(32767, v))").by(() -> {
      long[][] so = {{32767, 32767}, {32768, -32768}, {-32768, -32768}, {-32769, 32767}, {65535, -1}, {65536, 0}, {NO, 0}, {Long.MAX_VALUE, -1}};
      for (long[] s : so) put(1, s[0], s[1]);
    });
    edge(31, lowest, "ints").broken("item", "(int) v", "(int) Math.max(Integer.MIN_VALUE, Math.min(Integer.MAX_VALUE, v))").by(() -> {
      long[][] so = {{HIGH, HIGH}, {HIGH + 1L, LOW}, {LOW, LOW}, {LOW - 1L, HIGH}, {0xFFFFFFFFL, -1}, {1L << 32, 0}, {NO, 0}, {Long.MAX_VALUE, -1}};
      for (long[] s : so) put(2, s[0], s[1]);
    });
    edge(31, lowest, "longs")
        .broken("item", "((long[]) t)[i] = v", "((long[]) t)[i] = (int) v")
        .broken("read", "return java.lang.reflect", "if (t instanceof long[]) return Math.max(((long[]) t)[i], -Long.MAX_VALUE); return java.lang.reflect")
        .by(() -> {
          for (long v : new long[] {0, -1, HIGH + 1L, NO, Long.MAX_VALUE}) put(3, v, v);
        });
    edge(31, "booleans: whether v is not 0")
        .broken("item", "v != 0", "(v & 1) != 0")
        .broken("item", "v != 0", "(int) v != 0")
        .broken("item", "v != 0", "v > 0")
        .by(() -> {
          long[][] so = {{0, 0}, {1, 1}, {2, 1}, {-1, 1}, {1L << 32, 1}, {NO, 1}};
          for (long[] s : so) put(4, s[0], s[1]);
        });
    edge(TERMS, "4 booleans (items 0, 1)").broken("read", "? 1 : 0", "? -1 : 0").by(() -> {
      put(4, 5, 1);
      put(4, 0, 0);
    });
  }

  private void read() {
    edge(32, "NO: no such TAPE").broken("read", "tape < 0", "tape < -1").broken("read", "tape > 5", "tape > 6").by(() -> {
      for (int t : NO_TAPE) is(fresh().read(t, 0), NO);
    });
    edge(32, "nothing there").broken("read", "|| tapes[tape] == null ||", "|| tapes[tape] == null && i > 0 ||").by(() -> {
      Face x = fresh();
      is(x.read(0, 0), NO);
      x.tape(0, 0, 5);
      x.tape(0, -1, 0);
      is(x.read(0, 0), NO);
    });
    edge(32, "no such place")
        .broken("read", "i < 0", "i < -1")
        .broken("read", "i >= length(tapes[tape])", "i > length(tapes[tape])")
        .by(() -> {
          Face x = fresh();
          for (int sort = 0; sort <= 4; sort++) {
            x.tape(sort, sort, 3);
            for (int i : new int[] {-1, 3, LOW, HIGH}) is(x.read(sort, i), NO);
            is(x.read(sort, 0), 0);
            is(x.read(sort, 2), 0);
          }
          x.tape(5, 0, 0);
          is(x.read(5, 0), NO);
        });
  }

  /** TAPE 0 has the ints 1 to 6, TAPE 1 four 0s; TAPE 2 is of longs, TAPE 3 holds nothing. */
  private Face rows() {
    Face x = fresh();
    x.tape(0, 2, 6);
    x.tape(1, 2, 4);
    x.tape(2, 3, 6);
    for (int i = 0; i < 6; i++) x.item(0, i, i + 1);
    return x;
  }

  private void row(Face x, int tape, long... due) {
    for (int i = 0; i < due.length; i++) is(x.read(tape, i), due[i]);
    is(x.read(tape, due.length), NO);
  }

  private void shift() {
    edge(33, "NONE: tapes")
        .broken("shift", "tape < 0", "tape < -1")
        .broken("shift", "tape > 5", "tape > 6")
        .broken("shift", "other < 0", "other < -1")
        .broken("shift", "other > 5", "other > 6")
        .by(() -> {
          for (int t : NO_TAPE) {
            is(rows().shift(t, 0, 0, 0, 0), -1);
            is(rows().shift(0, 0, t, 0, 0), -1);
          }
        });
    edge(33, "NOTHING")
        .broken("shift", "if (a == null || b == null)", "if (a == null)")
        .broken("shift", "if (a == null || b == null)", "if (b == null)")
        .by(() -> {
          is(rows().shift(3, 0, 0, 0, 0), -11);
          is(rows().shift(0, 0, 3, 0, 0), -11);
          is(rows().shift(3, 0, 3, 0, 0), -11);
        });
    edge(33, "CAST: of unlike sorts")
        .broken("shift", "return -12", "return -13")
        .broken("shift", "if (a.getClass() != b.getClass())", "if (n > 0 && a.getClass() != b.getClass())")
        .by(() -> {
          is(rows().shift(0, 0, 2, 0, 1), -12);
          is(rows().shift(2, 0, 0, 0, 0), -12);
          Face x = fresh();
          for (int t = 0; t < 5; t++) x.tape(t, t, 1);
          for (int t = 0; t < 25; t++) is(x.shift(t / 5, 0, t % 5, 0, 1), t / 5 == t % 5 ? 1 : -12);
        });
    edge(33, "PLACE: n, i or j is below 0", "n").broken("shift", "if (n < 0 ||", "if (n < 0) return 0; if (").by(() -> {
      for (int n : new int[] {-1, LOW}) is(rows().shift(0, 1, 1, 1, n), -13);
    });
    edge(33, "PLACE: n, i or j is below 0", "i")
        .broken("shift", "i < 0 ||", "i < -1 ||")
        .broken("shift", "i < 0 ||", "i < 0 && n > 0 ||")
        .by(() -> {
          for (int i : new int[] {-1, LOW}) for (int n : new int[] {0, 1}) is(rows().shift(0, i, 1, 0, n), -13);
        });
    edge(33, "PLACE: n, i or j is below 0", "j")
        .broken("shift", "j < 0 ||", "j < -1 ||")
        .broken("shift", "j < 0 ||", "j < 0 && n > 0 ||")
        .by(() -> {
          for (int j : new int[] {-1, LOW}) for (int n : new int[] {0, 1}) is(rows().shift(0, 0, 1, j, n), -13);
        });
    edge(33, "or beyond either's end", "the one's")
        .broken("shift", "(long) i + n > length(a)", "(long) i + n > length(a) + 1")
        .broken("shift", "(long) i + n", "i + n")
        .broken("shift", "(long) i + n > length(a)", "n > 0 && (long) i + n > length(a)")
        .by(() -> {
          is(rows().shift(0, 3, 1, 0, 4), -13);
          is(rows().shift(0, 6, 1, 0, 1), -13);
          is(rows().shift(0, 7, 1, 0, 0), -13);
          is(rows().shift(0, HIGH, 1, 0, 1), -13);
          is(rows().shift(0, HIGH, 1, 0, 0), -13);
        });
    edge(33, "or beyond either's end", "the other's")
        .broken("shift", "(long) j + n > length(b)", "(long) j + n > length(b) + 1")
        .broken("shift", "(long) j + n", "j + n")
        .broken("shift", "(long) j + n > length(b)", "n > 0 && (long) j + n > length(b)")
        .by(() -> {
          is(rows().shift(0, 0, 1, 0, 5), -13);
          is(rows().shift(0, 0, 1, 4, 1), -13);
          is(rows().shift(0, 0, 1, 5, 0), -13);
          is(rows().shift(0, 0, 1, HIGH, 1), -13);
          is(rows().shift(0, 0, 1, HIGH, 0), -13);
          is(rows().shift(0, 0, 1, 0, HIGH), -13);
          is(rows().shift(0, HIGH, 1, HIGH, HIGH), -13);
        });
    edge(33, "NONE: tapes; NOTHING; CAST: of unlike sorts; PLACE", "in this order")
        .broken("shift", "Object a", "if (n < 0) return -13; Object a")
        .broken("shift", "if (a == null", "if (n < 0) return -13; if (a == null")
        .broken("shift", "if (a.getClass()", "if (n < 0) return -13; if (a.getClass()")
        .broken("shift", "if (tape < 0", "if (tape == 3) return -11; if (tape < 0")
        .by(() -> {
          is(rows().shift(3, 0, 6, 0, -1), -1);
          is(rows().shift(6, 0, 3, 0, 0), -1);
          is(rows().shift(3, 0, 0, 0, -1), -11);
          is(rows().shift(0, -1, 3, 0, 0), -11);
          is(rows().shift(0, 0, 2, 0, -1), -12);
        });
  }

  private void shifted() {
    edge(33, "n items of a TAPE from i on", "none, at either end")
        .broken("shift", "(long) i + n > length(a)", "(long) i + n >= length(a)")
        .broken("shift", "(long) j + n > length(b)", "(long) j + n >= length(b)")
        .by(() -> {
          Face x = rows();
          is(x.shift(0, 6, 1, 0, 0), 0);
          is(x.shift(0, 0, 1, 4, 0), 0);
          is(x.shift(0, 6, 1, 4, 0), 0);
          row(x, 0, 1, 2, 3, 4, 5, 6);
          row(x, 1, 0, 0, 0, 0);
        });
    edge(33, "n items of a TAPE from i on", "all, up to either's end")
        .broken("shift", "System.arraycopy(a, i, b, j, n)", "System.arraycopy(a, i, b, j, Math.max(0, n - 1))")
        .by(() -> {
          Face x = rows();
          is(x.shift(0, 2, 1, 0, 4), 4);
          row(x, 1, 3, 4, 5, 6);
          is(x.shift(0, 0, 0, 0, 6), 6);
          row(x, 0, 1, 2, 3, 4, 5, 6);
        });
    edge(33, "(or the same) from j on, as they all were before")
        .broken("shift", "System.arraycopy(a, i, b, j, n);", "for (int k = 0; k < n; k++) System.arraycopy(a, i + k, b, j + k, 1);")
        .broken("shift", "System.arraycopy(a, i, b, j, n);", "for (int k = n - 1; k >= 0; k--) System.arraycopy(a, i + k, b, j + k, 1);")
        .by(() -> {
          Face x = rows();
          is(x.shift(0, 0, 0, 1, 5), 5);
          row(x, 0, 1, 1, 2, 3, 4, 5);
          x = rows();
          is(x.shift(0, 1, 0, 0, 5), 5);
          row(x, 0, 2, 3, 4, 5, 6, 6);
        });
  }
}
