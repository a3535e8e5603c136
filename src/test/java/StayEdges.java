import java.util.Arrays;
import java.util.function.Consumer;

/** What is refused changes nothing, and what is asked changes nothing: call by call. */
final class StayEdges extends Edges {
  private static final String REFUSED = "What is answered so changes nothing", ASKED = "what is asked changes nothing";

  StayEdges() {
    refusedOfPeople();
    refusedOfDays();
    refusedOfTapes();
    asked();
    askedOfTapes();
  }

  /** An object in which there is something of everything. */
  private Face filled() {
    Face x = with(6, 3, 0b111);
    x.one(1, 2, 0b11000);
    for (int part = 0; part < 4; part++) x.row(0, part, part + 1);
    is(bridge(x, "press 2 s=1;free 3"), 0);
    x.pass(2);
    x.learn(0, 0b1100);
    x.ford(0, false);
    x.see(0, 3);
    x.see(1, -1);
    x.plan(0, 0);
    x.plan(3, 1);
    x.book(0, 10);
    x.book(1, 3);
    x.tape(0, 3, 3);
    for (int i = 0; i < 3; i++) x.item(0, i, 10);
    x.tape(1, 0, 2);
    x.item(1, 1, 7);
    x.act(0, 2, 3);
    feed(x, "fr");
    return x;
  }

  /** As much of an object as can be asked in some hundred calls. */
  private static long[] all(Face x) {
    long[] all = new long[120];
    int n = 0;
    for (int what = 0; what <= 6; what++) all[n++] = x.count(what);
    for (int what = 0; what <= 4; what++) all[n++] = x.told(what);
    for (int s = 0; s < 12; s++) all[n++] = x.told(10 + s);
    for (int p = 0; p < 3; p++) for (int what = 0; what <= 8; what++) all[n++] = x.of(p, what);
    for (int s = 0; s < 4; s++) all[n++] = x.urge(0, s);
    for (int s = 0; s < 3; s++) all[n++] = x.told(52 + s);
    for (int what = 0; what < 2; what++) {
      all[n++] = x.ends(what);
      all[n++] = x.can(what, 0);
    }
    all[n++] = x.looked();
    for (int t = 0; t < 3; t++) {
      all[n++] = x.judge(t, 0);
      for (int i = 0; i < 4; i++) all[n++] = x.read(t, i);
    }
    for (int i = 0; i < 13; i++) all[n++] = x.trace(i);
    return all;
  }

  private void stays(Consumer<Face> calls) {
    Face x = filled();
    long[] before = all(x);
    calls.accept(x);
    is(Arrays.equals(before, all(x)) ? 1 : 0, 1);
  }

  private void refusedOfPeople() {
    edge(TERMS, REFUSED, "one")
        .broken("one", "has > 4095) return -2;", "has > 4095) { people.add(new Person()); return -2; }")
        .broken("one", "kind > 6) return -1;", "kind > 6) { day++; return -1; }")
        .by(() -> stays(x -> {
          is(x.one(7, 0, 0), -1);
          is(x.one(0, 10, 0), -2);
          is(x.one(0, 0, 4096), -2);
        }));
    edge(TERMS, REFUSED, "one, being full")
        .broken("one", "if (people.size() == 6) return -4;", "if (people.size() == 6) { people.get(5).v = v; return -4; }")
        .by(() -> {
          Face x = fresh();
          for (int p = 0; p < 6; p++) x.one(0, 1, 1);
          is(x.one(1, 2, 2), -4);
          is(x.count(0), 6);
          for (int p = 0; p < 6; p++) for (int what = 0; what <= 4; what++) is(x.of(p, what), new int[] {0, 1, 1, 0, 0}[what]);
        });
    edge(TERMS, REFUSED, "learn")
        .broken("learn", "sentences > 4095) return -2;", "sentences > 4095) { people.get(person).has = sentences & 4095; return -2; }")
        .by(() -> stays(x -> {
          is(x.learn(0, 4096), -2);
          is(x.learn(1, -1), -2);
          is(x.learn(2, 0), -1);
        }));
    edge(TERMS, REFUSED, "ford")
        .broken("ford", "if (!isPerson(person)) return -1;", "if (!isPerson(person)) { people.get(1).beyond = isBeyond; return -1; }")
        .by(() -> stays(x -> {
          is(x.ford(2, false), -1);
          is(x.ford(-1, false), -1);
        }));
    edge(TERMS, REFUSED, "worth")
        .broken("worth", "n > 20) return -2;", "n > 20) { worths[sentence] = Math.max(0, Math.min(n, 20)); return -2; }")
        .by(() -> stays(x -> {
          is(x.worth(0, 21), -2);
          is(x.worth(11, -1), -2);
          is(x.worth(12, 0), -1);
        }));
    edge(TERMS, REFUSED, "row")
        .broken("row", "n > 9) return -2;", "n > 9) { people.get(person).row[part] = 9; return -2; }")
        .by(() -> stays(x -> {
          is(x.row(0, 0, 10), -2);
          is(x.row(0, 3, -1), -2);
          is(x.row(0, 4, 0), -1);
          is(x.row(1, 0, 9), -3);
        }));
    edge(TERMS, REFUSED, "feed").broken("feed", "sign > 127) return -2;", "sign > 127) { text += '?'; return -2; }").by(() -> {
      stays(x -> is(x.feed(128), -2));
      Face x = fresh();
      feed(x, "fre");
      x.feed(-1);
      x.feed(128);
      is(bridge(x, "e 1"), 0);
    });
    edge(TERMS, REFUSED, "feed, being full")
        .broken("feed", "if (text.length() == 100) return -4;", "if (text.length() == 100) { text = text.substring(1) + (char) sign; return -4; }")
        .by(() -> {
          Face x = fresh();
          feed(x, "hold 11 p=11" + "|p=1".repeat(20) + ";free 12");
          is(x.feed('x'), -4);
          is(x.bridge(), 0);
          is(x.told(1), 12);
        });
  }

  private void refusedOfDays() {
    edge(TERMS, REFUSED, "pass").broken("pass", "n > 60) return -2;", "n > 60) { goDay(); return -2; }").by(() -> stays(x -> {
      is(x.pass(61), -2);
      is(x.pass(-1), -2);
    }));
    edge(TERMS, REFUSED, "pass, beyond 9999")
        .broken("pass", "if (day + n > 9999) return -3;", "if (day + n > 9999) { while (day < 9999) goDay(); return -3; }")
        .by(() -> {
          Face x = with(0, 0, 0);
          goTo(x, 9990);
          x.learn(0, 1);
          is(x.pass(10), -3);
          is(x.told(0), 9990);
          is(x.told(2), 0);
          is(x.of(0, 4), 9990);
          is(x.of(0, 2), 1);
        });
    edge(TERMS, REFUSED, "see")
        .broken("see", "!isSentence(sentence)) return -1;", "!isSentence(sentence)) { seen.add(new int[] {0, 0}); return -1; }")
        .by(() -> stays(x -> {
          is(x.see(0, 12), -1);
          is(x.see(2, 0), -1);
        }));
    edge(TERMS, REFUSED, "see, being full")
        .broken("see", "if (seen.size() == 5) return -4;", "if (seen.size() == 5) { seen.set(4, new int[] {person, sentence}); return -4; }")
        .by(() -> {
          Face x = with(0, 0, 1);
          for (int i = 0; i < 5; i++) x.see(0, 0);
          is(x.see(0, 1), -4);
          is(x.of(0, 7), 2048);
        });
    edge(TERMS, REFUSED, "plan")
        .broken("plan", "!isPerson(n)) return -1;", "!isPerson(n)) { planned.add(new int[] {0, 0}); return -1; }")
        .by(() -> stays(x -> {
          is(x.plan(4, 0), -1);
          is(x.plan(1, 2), -1);
          is(x.plan(2, -1), -1);
          is(x.plan(3, 12), -1);
        }));
    edge(TERMS, REFUSED, "plan, being full")
        .broken("plan", "if (planned.size() == 10) return -4;", "if (planned.size() == 10) { planned.set(9, new int[] {what, n}); return -4; }")
        .by(() -> {
          Face x = with(0, 0, 0);
          for (int i = 0; i < 10; i++) x.plan(0, 0);
          is(x.plan(1, 0), -4);
          is(x.ends(1), 10);
        });
    edge(TERMS, REFUSED, "book")
        .broken("book", "worth > 20) return -2;", "worth > 20) { booked.clear(); return -2; }")
        .by(() -> stays(x -> {
          is(x.book(0, 21), -2);
          is(x.book(12, 0), -1);
        }));
    edge(TERMS, REFUSED, "book, being full")
        .broken("book", "if (booked.size() == 8) return -4;", "if (booked.size() == 8) { booked.set(7, new int[] {sentence, worth}); return -4; }")
        .by(() -> {
          Face x = fresh();
          for (int i = 0; i < 8; i++) x.book(0, 10);
          is(x.book(0, 0), -4);
          is(x.looked(), -5);
        });
    edge(TERMS, REFUSED, "undo")
        .broken("undo", "if (kept == null) return -3;", "if (kept == null) { become(new Model()); return -3; }")
        .by(() -> stays(x -> is(x.undo(), -3)));
  }

  private void refusedOfTapes() {
    edge(TERMS, REFUSED, "tape")
        .broken("tape", "if (n > 60) return -2;", "if (n > 60) { tapes[tape] = null; return -2; }")
        .broken("tape", "if (n < 0) return -14;", "if (n < 0) { tapes[tape] = null; return -14; }")
        .broken("tape", "sort > 4) return -2;", "sort > 4) { tapes[tape] = null; return -2; }")
        .by(() -> stays(x -> {
          is(x.tape(0, 3, 61), -2);
          is(x.tape(0, 2, -1), -14);
          is(x.tape(1, 5, 1), -2);
          is(x.tape(6, 0, 1), -1);
        }));
    edge(TERMS, REFUSED, "item")
        .broken("item", "i >= length(t)) return -13;", "i >= length(t)) { tapes[tape] = new long[0]; return -13; }")
        .broken("item", "if (t == null) return -11;", "if (t == null) { tapes[tape] = new long[1]; return -11; }")
        .by(() -> stays(x -> {
          is(x.item(0, 3, 9), -13);
          is(x.item(0, -1, 9), -13);
          is(x.item(2, 0, 9), -11);
          is(x.item(6, 0, 9), -1);
        }));
    edge(TERMS, REFUSED, "shift")
        .broken("shift", "length(b)) return -13;", "length(b)) { if (n == 2) System.arraycopy(a, i, b, j, 1); return -13; }")
        .broken("shift", "if (a.getClass() != b.getClass()) return -12;", "if (a.getClass() != b.getClass()) { tapes[other] = a; return -12; }")
        .by(() -> stays(x -> {
          is(x.shift(0, 0, 1, 0, 1), -12);
          is(x.shift(0, 0, 2, 0, 1), -11);
          is(x.shift(2, 0, 0, 0, 1), -11);
          is(x.shift(6, 0, 0, 0, 1), -1);
          is(x.shift(1, 1, 1, 0, 2), -13);
          is(x.shift(1, 0, 1, 1, 2), -13);
          is(x.shift(1, 0, 1, 0, -1), -13);
        }));
    edge(33, "PLACE: n, i or j is below 0, or beyond either's end.", "no item comes")
        .broken("shift", "length(b)) return -13;", "length(b)) { if (n > 0 && i >= 0 && j >= 0 && i < length(a) && j < length(b)) System.arraycopy(a, i, b, j, 1); return -13; }")
        .by(() -> {
          Face x = fresh();
          x.tape(0, 0, 3);
          x.tape(1, 0, 2);
          for (int i = 0; i < 3; i++) x.item(0, i, 5 + i);
          is(x.shift(0, 0, 1, 0, 3), -13);
          is(x.shift(0, 2, 1, 0, 2), -13);
          is(x.read(1, 0), 0);
          is(x.read(1, 1), 0);
        });
  }

  private void asked() {
    edge(TERMS, ASKED, "of")
        .broken("of", "if (what == 7) return sets.size();", "people.get(person).has = 0; if (what == 7) return sets.size();")
        .broken("dear", "return most;", "worths[tip] = 0; return most;")
        .by(() -> stays(x -> {
          for (int what = 0; what <= 8; what++) {
            x.of(0, what);
            x.of(1, what);
          }
        }));
    edge(TERMS, ASKED, "urge").broken("urge", "return urgeBySum", "people.get(person).v++; return urgeBySum").by(() -> stays(x -> {
      for (int s = -1; s <= 12; s++) x.urge(1, s);
    }));
    edge(TERMS, ASKED, "told")
        .broken("told", "Model m = copy();\n      for (int n = 0; n <= 60; n++) {\n        if", "Model m = this;\n      for (int n = 0; n <= 60; n++) {\n        if")
        .broken("told", "        Model m = copy();\n        m.worths", "        Model m = this;\n        m.worths")
        .by(() -> stays(x -> {
          for (int what = -1; what <= 62; what++) x.told(what);
        }));
    edge(TERMS, ASKED, "on").broken("on", "Model m = behind(n);", "Model m = this; pass(n);").by(() -> stays(x -> {
      for (int what : new int[] {0, 1, 2, 3, 10, 11, 12}) x.on(60, what);
    }));
    edge(TERMS, ASKED, "decoy")
        .broken("decoy", "return best;", "if (best > 0) people.get(person).has |= best; return best;")
        .by(() -> stays(x -> {
          for (int s = 0; s < 12; s++) {
            x.decoy(0, s);
            x.decoy(1, s);
          }
        }));
    edge(TERMS, ASKED, "can").broken("can", "Model m = copy();", "Model m = this;").by(() -> stays(x -> {
      for (int what = 0; what < 2; what++) {
        x.can(0, what);
        x.can(1, what);
      }
    }));
    edge(TERMS, ASKED, "odds").broken("odds", "Model m = copy();", "Model m = this;").by(() -> stays(x -> {
      for (int part = 0; part < 2; part++) {
        x.odds(0, part);
        x.odds(1, part);
      }
    }));
    edge(TERMS, ASKED, "mean").broken("mean", "Model m = behind(n);", "Model m = this; pass(n);").by(() -> stays(x -> {
      for (int n : new int[] {0, 1, 60}) {
        x.mean(n, 0);
        x.mean(n, 1);
      }
    }));
    edge(TERMS, ASKED, "ends").broken("ends", "Model m = copy();", "Model m = this;").by(() -> {
      Face x = with(0, 0, 1);
      x.plan(0, 0);
      x.plan(1, 0);
      for (int i = 0; i < 3; i++) {
        is(x.ends(0), 0);
        is(x.ends(1), 0);
      }
      is(x.told(0), 0);
      is(x.told(4), 0);
      is(x.of(0, 2), 1);
    });
    edge(TERMS, ASKED, "looked").broken("looked", "for (int[] row", "if (!booked.isEmpty()) booked.remove(0); for (int[] row").by(() -> {
      Face x = fresh();
      x.book(0, 0);
      for (int i = 0; i < 3; i++) is(x.looked(), 0);
      is(x.count(4), 1);
    });
  }

  private void askedOfTapes() {
    edge(TERMS, ASKED, "judge")
        .broken("judge", "long[] row = (long[]) tapes[tape];", "long[] row = ((long[]) tapes[tape]).clone(); tapes[tape] = null;")
        .by(() -> stays(x -> {
          for (int i = -1; i <= 3; i++) {
            x.judge(0, i);
            x.judge(1, i);
          }
        }));
    edge(TERMS, ASKED, "trace").broken("trace", "return i < 0", "if (i == 5) bodies.clear(); return i < 0").by(() -> {
      Face x = with(6, 0, 1);
      x.act(0, 2, 1);
      for (int i = -1; i <= 20; i++) x.trace(i);
      is(x.count(6), 12);
      is(x.trace(0), 40);
    });
    edge(TERMS, ASKED, "taken").broken("taken", "return kind;", "{ people.get(person).kind = k; return kind; }").by(() -> stays(x -> {
      for (int k = 0; k <= 6; k++) {
        x.taken(0, k);
        x.taken(1, k);
      }
    }));
    edge(TERMS, ASKED, "count").broken("count", "return what", "if (what == 5) text = \"\"; return what").by(() -> {
      Face x = fresh();
      feed(x, "free");
      for (int what = -1; what <= 7; what++) x.count(what);
      is(x.count(5), 4);
      is(bridge(x, " 1"), 0);
    });
    edge(TERMS, ASKED, "read")
        .broken("read", "return java.lang.reflect.Array.getLong(t, i);", "long v = java.lang.reflect.Array.getLong(t, i); item(tape, i, 0); return v;")
        .by(() -> {
          Face x = fresh();
          x.tape(0, 3, 2);
          x.item(0, 1, 7);
          for (int i = 0; i < 3; i++) is(x.read(0, 1), 7);
        });
    edge(TERMS, "changes nothing. ON", "the IMAGE is not what is tried on")
        .broken("behind", "Model m = copy();", "Model m = copy(); kept = m;")
        .by(() -> {
          Face x = with(0, 0, 0b111);
          x.image();
          x.on(60, 0);
          x.told(30);
          x.of(0, 8);
          x.undo();
          is(x.of(0, 2), 0b111);
          is(x.told(0), 0);
        });
  }
}
