/** Boundary cases of promises 1 to 11: people, sentences, bridges. */
final class PeopleEdges extends Edges {
  /** Of an object with one person: numbers that are nobody's. */
  static final int[] NOBODY = {-1, 1, 5, 6, LOW, HIGH};
  static final int[] NO_SENTENCE = {-1, 12, LOW, HIGH};

  PeopleEdges() {
    begins();
    one();
    of();
    urge();
    learnAndFord();
    worth();
    row();
    feed();
    bridge();
    told();
  }

  private void begins() {
    edge(1, "Nobody, no BRIDGE.", "nobody").broken("isPerson", "p < people.size()", "p <= people.size()").by(() -> {
      Face x = fresh();
      is(x.count(0), 0);
      is(x.of(0, 0), -1);
      is(x.told(4), 0);
    });
    edge(1, "Nobody, no BRIDGE.", "no BRIDGE").broken("", "held = -1", "held = 0").by(() -> {
      Face x = with(0, 0, 1);
      is(x.count(1), 0);
      is(x.told(1), 0);
      is(x.urge(0, 0), 10);
    });
    edge(1, "Nobody, no BRIDGE.", "nothing told by hand, no TEXT, no TRACE, no IMAGE")
        .broken("", "String text = \"\"", "String text = \" \"")
        .broken("undo", "if (kept == null) return -3;", "if (kept == null) return 0;")
        .by(() -> {
          Face x = fresh();
          for (int what = 2; what <= 6; what++) is(x.count(what), 0);
          is(x.undo(), -3);
        });
  }

  private void one() {
    edge(2, "NONE: kind", "too small").broken("one", "kind < 0", "kind < -1").by(() -> {
      for (int kind : new int[] {-1, LOW}) is(fresh().one(kind, 0, 0), -1);
    });
    edge(2, "NONE: kind", "too large").broken("one", "kind > 6", "kind > 7").by(() -> {
      for (int kind : new int[] {7, HIGH}) is(fresh().one(kind, 0, 0), -1);
    });
    edge(2, "NONE: kind", "the first and the last are")
        .broken("one", "kind < 0", "kind < 1")
        .broken("one", "kind > 6", "kind > 5")
        .by(() -> {
          is(with(0, 0, 0).of(0, 0), 0);
          is(with(6, 0, 0).of(0, 0), 6);
        });
    edge(2, "BAD: v, has", "v too small").broken("one", "v < 0", "v < -1").by(() -> {
      for (int v : new int[] {-1, LOW}) is(fresh().one(0, v, 0), -2);
    });
    edge(2, "BAD: v, has", "v too large").broken("one", "v > 9", "v > 10").by(() -> {
      for (int v : new int[] {10, HIGH}) is(fresh().one(0, v, 0), -2);
    });
    edge(2, "BAD: v, has", "has too small").broken("one", "has < 0", "has < -1").by(() -> {
      for (int has : new int[] {-1, LOW}) is(fresh().one(0, 0, has), -2);
    });
    edge(2, "BAD: v, has", "has too large").broken("one", "has > 4095", "has > 4096").by(() -> {
      for (int has : new int[] {4096, HIGH}) is(fresh().one(0, 0, has), -2);
    });
    edge(2, "BAD: v, has", "the least and the greatest has are")
        .broken("one", "has < 0", "has < 1")
        .broken("one", "has > 4095", "has > 4094")
        .by(() -> {
          is(with(0, 0, 0).of(0, 2), 0);
          is(with(0, 0, 4095).of(0, 2), 4095);
        });
    edge(2, "FULL: 6").broken("one", "people.size() == 6", "people.size() == 7").broken("one", "return -4", "return -2").by(() -> {
      Face x = fresh();
      for (int p = 0; p < 6; p++) is(x.one(0, 0, 0), p);
      is(x.one(0, 0, 0), -4);
      is(x.count(0), 6);
    });
    edge(2, "NONE: kind; BAD: v, has; FULL: 6.", "in this order")
        .broken("one", "if (kind < 0", "if (people.size() == 6) return -4; if (kind < 0")
        .broken("one", "if (kind < 0", "if (v > 9) return -2; if (kind < 0")
        .broken("one", "if (v < 0", "if (people.size() == 6) return -4; if (v < 0")
        .by(() -> {
          Face x = fresh();
          is(x.one(7, 10, 4096), -1);
          for (int p = 0; p < 6; p++) x.one(0, 0, 0);
          is(x.one(-1, 0, 0), -1);
          is(x.one(0, 10, 0), -2);
          is(x.one(0, 0, -1), -2);
        });
  }

  private void of() {
    edge(3, "NONE.", "person")
        .broken("of", "!isPerson(person) ||", "people.isEmpty() || person < 0 ||")
        .broken("isPerson", "p >= 0", "p >= -1")
        .by(() -> {
          Face x = with(0, 0, 0);
          for (int p : NOBODY) for (int what : new int[] {0, 5, 8}) is(x.of(p, what), -1);
          is(fresh().of(0, 0), -1);
        });
    edge(3, "NONE.", "what").broken("of", "what < 0", "what < -1").broken("of", "what > 8", "what > 9").by(() -> {
      Face x = with(0, 0, 0);
      x.see(0, 5);
      for (int what : new int[] {-1, 9, LOW, HIGH}) is(x.of(0, what), -1);
    });
    edge(3, "Of one what 0 KIND, 1 v, 2 HAS (bits)", "the least and the greatest")
        .broken("of", "return p.kind", "return Math.min(p.kind, 5)")
        .broken("of", "return p.v", "return Math.max(p.v, 1)")
        .broken("of", "return p.has", "return p.has & 2047")
        .by(() -> {
          Face x = with(0, 0, 0);
          x.one(6, 9, 4095);
          for (int what = 0; what <= 2; what++) is(x.of(0, what), 0);
          is(x.of(1, 0), 6);
          is(x.of(1, 1), 9);
          is(x.of(1, 2), 4095);
        });
    edge(3, "4 BACK", "the least and the greatest").broken("of", "return p.back", "return Math.min(p.back, 9998)").by(() -> {
      Face x = with(0, 0, 0);
      is(x.of(0, 4), 0);
      goTo(x, 9998);
      is(x.of(0, 4), 9998);
      x.pass(1);
      is(x.of(0, 4), 9999);
    });
    edge(3, "3 whether it is BEYOND").broken("of", "p.beyond ? 1 : 0", "p.beyond ? 1 : -5").by(() -> {
      Face x = with(0, 0, 0);
      is(x.of(0, 3), 0);
      x.ford(0, true);
      is(x.of(0, 3), 1);
    });
    edge(3, "5 TIP (-5: none)").broken("tipBySums", "int tip = -5", "int tip = -1").by(() -> {
      is(with(0, 0, 0).of(0, 5), -5);
      is(with(0, 0, 1).of(0, 5), 0);
      is(with(0, 0, 2048).of(0, 5), 11);
    });
    edge(3, "6 DEAR (-5)").broken("dear", "return -5", "return -1").by(() -> is(with(0, 0, 0).of(0, 6), -5));
    edge(3, "7 HAD: how many", "none is 0").broken("of", "return sets.size()", "return sets.isEmpty() ? -5 : sets.size()").by(() -> {
      Face x = with(0, 0, 0);
      worths(x);
      x.see(0, 0);
      is(x.of(0, 7), 0);
    });
    edge(3, "8 the least (-5)").broken("of", "sets.isEmpty() ? -5", "sets.isEmpty() ? -1").by(() -> {
      Face x = with(0, 0, 0);
      worths(x);
      x.see(0, 0);
      is(x.of(0, 8), -5);
    });
  }

  private void urge() {
    edge(4, "whether it HAS it or not")
        .broken("urge", "return urgeBySum", "if (!has(people.get(person).has, sentence)) return -5; return urgeBySum")
        .by(() -> {
          Face x = with(0, 0, 1);
          is(x.urge(0, 0), 10);
          is(x.urge(0, 11), 10);
        });
    edge(4, "-10001: NONE.", "person")
        .broken("urge", "!isPerson(person) ||", "people.isEmpty() ||")
        .broken("urge", "return -10001", "return -1")
        .by(() -> {
          Face x = with(0, 0, 1);
          for (int p : NOBODY) is(x.urge(p, 0), -10001);
          is(fresh().urge(0, 0), -10001);
        });
    edge(4, "-10001: NONE.", "sentence").broken("isSentence", "s >= 0", "s >= -1").broken("isSentence", "s <= 11", "s <= 12").by(() -> {
      Face x = with(0, 0, 1);
      for (int s : NO_SENTENCE) is(x.urge(0, s), -10001);
    });
  }

  private void learnAndFord() {
    edge(5, "NONE; BAD.", "person").broken("learn", "if (!isPerson(person)) return -1;", "if (person != 0) return -2;").by(() -> {
      Face x = with(0, 0, 5);
      for (int p : NOBODY) is(x.learn(p, 0), -1);
      is(x.of(0, 2), 5);
    });
    edge(5, "NONE; BAD.", "too small").broken("learn", "sentences < 0", "sentences < -1").by(() -> {
      Face x = with(0, 0, 5);
      for (int set : new int[] {-1, LOW}) is(x.learn(0, set), -2);
    });
    edge(5, "NONE; BAD.", "too large").broken("learn", "sentences > 4095", "sentences > 4096").by(() -> {
      Face x = with(0, 0, 5);
      for (int set : new int[] {4096, HIGH}) is(x.learn(0, set), -2);
    });
    edge(5, "NONE; BAD.", "in this order")
        .broken("learn", "if (!isPerson", "if (sentences > 4095) return -2; if (!isPerson")
        .by(() -> is(fresh().learn(0, 4096), -1));
    edge(6, "whether it was", "it stays as it is").broken("ford", "return was ? 1 : 0", "return was != isBeyond ? 1 : 0").by(() -> {
      Face x = with(0, 0, 0);
      is(x.ford(0, false), 0);
      is(x.ford(0, true), 0);
      is(x.ford(0, true), 1);
      is(x.ford(0, false), 1);
    });
    edge(6, "NONE.").broken("ford", "if (!isPerson(person)) return -1;", "if (person != 0) return 0;").by(() -> {
      Face x = with(0, 0, 0);
      for (int p : NOBODY) is(x.ford(p, true), -1);
      is(x.told(4), 0);
    });
  }

  private void worth() {
    edge(7, "becomes n (0 .. 20)").broken("worth", "n < 0", "n < 1").broken("worth", "n > 20", "n > 19").by(() -> {
      Face x = fresh();
      is(x.worth(0, 0), 10);
      is(x.worth(0, 20), 0);
      is(x.told(10), 20);
    });
    edge(7, "NONE; BAD.", "sentence")
        .broken("worth", "if (!isSentence(sentence)) return -1;", "if (!isSentence(sentence)) return -2;")
        .by(() -> {
          Face x = fresh();
          for (int s : NO_SENTENCE) is(x.worth(s, 0), -1);
        });
    edge(7, "NONE; BAD.", "n too small").broken("worth", "n < 0", "n < -1").by(() -> {
      for (int n : new int[] {-1, LOW}) is(fresh().worth(11, n), -2);
    });
    edge(7, "NONE; BAD.", "n too large").broken("worth", "n > 20", "n > 21").by(() -> {
      for (int n : new int[] {21, HIGH}) is(fresh().worth(11, n), -2);
    });
    edge(7, "NONE; BAD.", "in this order")
        .broken("worth", "if (!isSentence", "if (n > 20) return -2; if (!isSentence")
        .by(() -> is(fresh().worth(12, 21), -1));
  }

  private void row() {
    edge(8, "becomes n (0 .. 9)").broken("row", "n < 0", "n < 1").broken("row", "n > 9", "n > 8").by(() -> {
      Face x = with(6, 0, 0);
      is(x.row(0, 0, 9), 0);
      is(x.row(0, 0, 0), 9);
      is(x.row(0, 3, 9), 0);
      is(x.urge(0, 11), 19);
    });
    edge(8, "NONE: person, part", "person").broken("row", "if (!isPerson(person) ||", "if (person != 0) return -3; if (").by(() -> {
      Face x = with(6, 0, 0);
      for (int p : NOBODY) is(x.row(p, 0, 0), -1);
    });
    edge(8, "NONE: person, part", "part too small").broken("row", "part < 0", "part < -1").by(() -> {
      for (int part : new int[] {-1, LOW}) is(with(6, 0, 0).row(0, part, 0), -1);
    });
    edge(8, "NONE: person, part", "part too large").broken("row", "part > 3", "part > 4").by(() -> {
      for (int part : new int[] {4, HIGH}) is(with(6, 0, 0).row(0, part, 0), -1);
    });
    edge(8, "BAD", "n too small").broken("row", "n < 0", "n < -1").by(() -> {
      for (int n : new int[] {-1, LOW}) is(with(6, 0, 0).row(0, 0, n), -2);
    });
    edge(8, "BAD", "n too large").broken("row", "n > 9", "n > 10").by(() -> {
      for (int n : new int[] {10, HIGH}) is(with(6, 0, 0).row(0, 0, n), -2);
    });
    edge(8, "STATE: another KIND")
        .broken("row", "kind != 6", "kind < 3")
        .broken("row", "kind != 6", "kind == 0")
        .broken("row", "kind != 6", "kind != 6 && people.get(person).kind != 5")
        .by(() -> {
          for (int kind = 0; kind <= 5; kind++) is(with(kind, 0, 0).row(0, 0, 0), -3);
        });
    edge(8, "NONE: person, part; BAD; STATE: another KIND.", "in this order")
        .broken("row", "if (n < 0", "if (people.get(person).kind != 6) return -3; if (n < 0")
        .broken("row", "if (!isPerson", "if (n > 9) return -2; if (!isPerson")
        .by(() -> {
          is(with(0, 0, 0).row(1, 0, 10), -1);
          is(with(0, 0, 0).row(0, 4, 10), -1);
          is(with(0, 0, 0).row(0, 0, 10), -2);
        });
  }

  private void feed() {
    edge(9, "A sign (0 .. 127)", "the least and the greatest")
        .broken("feed", "sign < 0", "sign < 1")
        .broken("feed", "sign > 127", "sign > 126")
        .by(() -> {
          Face x = fresh();
          is(x.feed(0), 1);
          is(x.feed(127), 2);
          is(x.count(5), 2);
        });
    edge(9, "BAD; FULL.", "too small").broken("feed", "sign < 0", "sign < -1").by(() -> {
      for (int sign : new int[] {-1, LOW}) is(fresh().feed(sign), -2);
    });
    edge(9, "BAD; FULL.", "too large").broken("feed", "sign > 127", "sign > 128").by(() -> {
      for (int sign : new int[] {128, 255, 256 + 'f', HIGH}) is(fresh().feed(sign), -2);
    });
    edge(9, "BAD; FULL.", "full")
        .broken("feed", "text.length() == 100", "text.length() == 101")
        .broken("feed", "return -4", "return -2")
        .by(() -> {
          Face x = fresh();
          for (int i = 1; i <= 100; i++) is(x.feed('f'), i);
          is(x.feed('f'), -4);
          is(x.count(5), 100);
        });
    edge(9, "BAD; FULL.", "in this order").broken("feed", "if (sign < 0", "if (text.length() == 100) return -4; if (sign < 0").by(() -> {
      Face x = fresh();
      for (int i = 1; i <= 100; i++) x.feed('f');
      is(x.feed(128), -2);
      is(x.feed(-1), -2);
    });
  }

  private void bridge() {
    edge(10, "THE TEXT, which is empty then").broken("bridge", "text = \"\";", "").by(() -> {
      Face x = fresh();
      is(bridge(x, "free 1"), 0);
      is(x.count(5), 0);
      is(x.feed('f'), 1);
    });
    edge(10, "THE TEXT, which is empty then", "by a FAULT, too")
        .broken("bridge", "text = \"\";\n    int fault = fault(t);", "int fault = fault(t); if (fault < 0) text = \"\";")
        .by(() -> {
          Face x = fresh();
          is(bridge(x, "free"), -14);
          is(x.count(5), 0);
          is(bridge(x, "free 1"), 0);
        });
    edge(10, "is a BRIDGE, and holds: its number", "from 0 to 5").broken("bridge", "return held", "return held + 1").by(() -> {
      Face x = fresh();
      for (int i = 0; i < 6; i++) is(bridge(x, "free 1"), i);
    });
    edge(10, "FULL: there are 6 (THE TEXT stays)")
        .broken("bridge", "bridges.size() == 6) return -4", "bridges.size() == 6) { text = \"\"; return -4; } if (false) return -4")
        .broken("bridge", "bridges.size() == 6", "bridges.size() == 7")
        .by(() -> {
          Face x = fresh();
          for (int i = 0; i < 6; i++) is(bridge(x, "free " + i), i);
          feed(x, "free 9");
          is(x.bridge(), -4);
          is(x.count(5), 6);
          is(x.bridge(), -4);
          is(x.told(1), 5);
          is(x.count(1), 6);
        });
    edge(10, "FULL: there are 6 (THE TEXT stays); -10 less the FAULT", "in this order")
        .broken("bridge", "if (bridges.size() == 6)", "if (bridges.size() == 6 && fault(text) < 0)")
        .by(() -> {
          Face x = fresh();
          for (int i = 0; i < 6; i++) bridge(x, "free 1");
          is(x.bridge(), -4);
          feed(x, "x");
          is(x.bridge(), -4);
          is(x.count(5), 1);
        });
    edge(10, "-10 less the FAULT", "the least and the greatest")
        .broken("bridge", "return -10 - fault", "return -10 - Math.max(1, Math.min(fault, 99))")
        .by(() -> {
          is(fresh().bridge(), -10);
          is(bridge(fresh(), "x"), -10);
          is(bridge(fresh(), "press 1 p=1" + "|p=1".repeat(22) + "&"), -110);
        });
    edge(10, "(the one that held holds)")
        .broken("bridge", "if (fault >= 0) return", "if (fault >= 0) held = -1; if (fault >= 0) return")
        .broken("bridge", "int fault = fault(t);", "int fault = fault(t); if (fault >= 0) bridges.add(\"free 3\");")
        .by(() -> {
          Face x = with(0, 0, 1);
          is(bridge(x, "free 7;press 5 p=0"), 0);
          is(bridge(x, "free 3;press 9 p=0;"), -29);
          is(x.told(1), 7);
          is(x.urge(0, 0), 15);
          is(x.count(1), 1);
        });
    edge(10, "is a BRIDGE, and holds", "nothing is left of a TEXT that had a FAULT")
        .broken("bridge", "text = \"\";\n    int fault = fault(t);", "int fault = fault(t); text = fault < 0 ? \"\" : t.substring(0, Math.max(0, t.lastIndexOf(';') + 1));")
        .broken("bridge", "int bridge() {", "String before = \"\"; public int bridge() { if (fault(text) >= 0) before = \"free 7;\"; else { text = before + text; before = \"\"; }")
        .by(() -> {
          Face x = with(0, 0, 1);
          is(bridge(x, "free 7;press 50 s=0&p=0;hold 9 s=0;press 3 s=0|p=0|x"), -61);
          is(bridge(x, "press 2 s=0"), 0);
          is(x.urge(0, 0), 12);
          is(x.told(1), 0);
          is(bridge(x, "press 2 s=0;x"), -22);
          is(bridge(x, "press 2 s"), -19);
          for (int i = 0; i < 6; i++) is(bridge(x, "press 1 p=1|p=1|p=1|p=1|p=1|p=1|p=1|p=1|p=1|p=1|"), -58);
          is(bridge(x, "press 4 s=0"), 1);
          is(x.urge(0, 0), 14);
        });
    edge(10, "(the one that held holds)", "there was none")
        .broken("bridge", "if (fault >= 0) return", "if (fault >= 0 && held < 0 && t.length() > 5) { bridges.add(\"free 3\"); held = 0; } if (fault >= 0) return")
        .by(() -> {
          Face x = with(0, 0, 1);
          is(bridge(x, "free 3;press 9 p=0;"), -29);
          is(x.told(1), 0);
          is(x.urge(0, 0), 10);
          is(bridge(x, "free 4"), 0);
        });
  }

  private void told() {
    edge(11, "What 0 DAY, 1 FREE", "the least and the greatest")
        .broken("told", "return day", "return Math.min(day, 9998)")
        .broken("told", "return free()", "return Math.min(free(), 98)")
        .by(() -> {
          Face x = fresh();
          is(x.told(0), 0);
          is(x.told(1), 0);
          goTo(x, 9999);
          is(bridge(x, "free 99"), 0);
          is(x.told(0), 9999);
          is(x.told(1), 99);
        });
    edge(11, "2 TAKEN (bits), 3 HEARD (bits)", "the first and the last")
        .broken("told", "return takenSet", "return takenSet & 2047")
        .broken("told", "return heardSet", "return heardSet & ~1")
        .by(() -> {
          Face x = with(0, 0, 1);
          x.one(0, 0, 2048);
          x.pass(1);
          is(x.told(2), 0b100000000001);
          is(x.told(3), 0);
          x.learn(0, 1);
          x.learn(1, 2048);
          x.pass(1);
          is(x.told(2), 0b100000000001);
          is(x.told(3), 0b100000000001);
        });
    edge(11, "4 who is BEYOND (bits)", "the first and the last")
        .broken("beyondSet", "bits += 1 << i", "bits += 2 << i")
        .broken("beyondSet", "i < people.size()", "i < Math.min(5, people.size())")
        .by(() -> {
          Face x = fresh();
          for (int p = 0; p < 6; p++) x.one(p, 0, 0);
          x.ford(0, true);
          is(x.told(4), 0b000001);
          x.ford(5, true);
          is(x.told(4), 0b100001);
          for (int p = 1; p < 5; p++) x.ford(p, true);
          is(x.told(4), 0b111111);
        });
    edge(11, "10 and s WORTH of SENTENCE s", "the first and the last")
        .broken("told", "what <= 21", "what <= 20")
        .broken("told", "what >= 10", "what >= 11")
        .by(() -> {
          Face x = fresh();
          x.worth(0, 0);
          x.worth(11, 20);
          is(x.told(10), 0);
          is(x.told(21), 20);
        });
    edge(11, "30 and s COMES of it (-5)", "the first and the last")
        .broken("told", "what <= 41", "what <= 40")
        .broken("told", "what >= 30", "what >= 31")
        .broken("told", "return -5", "return -1")
        .by(() -> {
          Face x = with(0, 0, 0b100000000001);
          x.ford(0, true);
          is(x.told(30), 1);
          is(x.told(41), 2);
          is(x.told(31), -5);
        });
    edge(11, "50 and s WORTHS of it (bits)", "the first and the last")
        .broken("told", "what <= 61", "what <= 60")
        .broken("told", "what >= 50", "what >= 51")
        .by(() -> {
          Face x = with(0, 0, 0b100000000001);
          x.see(0, 0);
          is(x.told(50), 0x1FFFFF & ~0x3FF);
          is(x.told(61), 0x7FF);
        });
    edge(11, "NONE.", "between and around")
        .broken("told", "what <= 21", "what <= 22")
        .broken("told", "what >= 10", "what >= 9")
        .broken("told", "what == 4", "what == 4 || what == 5")
        .broken("told", "what <= 41", "what <= 42")
        .broken("told", "what >= 30", "what >= 29")
        .broken("told", "what <= 61", "what <= 62")
        .broken("told", "what >= 50", "what >= 49")
        .by(() -> {
          Face x = with(0, 0, 1);
          for (int what : new int[] {LOW, -1, 5, 9, 22, 29, 42, 49, 62, HIGH}) is(x.told(what), -1);
        });
  }
}
