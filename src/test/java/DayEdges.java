/** Boundary cases of promises 12 to 22: days, what is SEEN, odds, plans, books. */
final class DayEdges extends Edges {
  private static final int[] NOBODY = PeopleEdges.NOBODY, NO_SENTENCE = PeopleEdges.NO_SENTENCE;

  DayEdges() {
    pass();
    on();
    decoy();
    see();
    can();
    odds();
    mean();
    plan();
    ends();
    book();
    looked();
  }

  private void pass() {
    edge(12, "n DAYS (0 .. 60) go: DAY", "0")
        .broken("pass", "n < 0", "n < 1")
        .broken("pass", "for (int i = 0; i < n", "for (int i = 0; i < Math.max(n, 1)")
        .by(() -> {
          Face x = with(0, 0, 1);
          is(x.pass(0), 0);
          is(x.told(0), 0);
          is(x.told(2), 0);
        });
    edge(12, "n DAYS (0 .. 60) go: DAY", "60")
        .broken("pass", "n > 60", "n > 59")
        .broken("pass", "for (int i = 0; i < n", "for (int i = 0; i < Math.min(n, 59)")
        .by(() -> {
          Face x = with(0, 0, 0);
          is(x.pass(60), 60);
          is(x.of(0, 4), 60);
          is(x.pass(60), 120);
        });
    edge(12, "BAD", "too small").broken("pass", "n < 0", "n < -1").by(() -> {
      for (int n : new int[] {-1, LOW}) is(fresh().pass(n), -2);
    });
    edge(12, "BAD", "too large").broken("pass", "n > 60", "n > 61").by(() -> {
      for (int n : new int[] {61, HIGH}) is(fresh().pass(n), -2);
    });
    edge(12, "STATE: it would be above 9999", "9999 is not").broken("pass", "day + n > 9999", "day + n > 9998").by(() -> {
      Face x = fresh();
      goTo(x, 9940);
      is(x.pass(59), 9999);
      is(x.pass(0), 9999);
    });
    edge(12, "STATE: it would be above 9999", "10000 is")
        .broken("pass", "day + n > 9999", "day + n > 10000")
        .broken("pass", "day + n > 9999", "day > 9999")
        .by(() -> {
          Face x = fresh();
          goTo(x, 9940);
          is(x.pass(60), -3);
          is(x.told(0), 9940);
          x.pass(59);
          is(x.pass(1), -3);
          is(x.told(0), 9999);
        });
    edge(12, "BAD; STATE: it would be above 9999.", "in this order")
        .broken("pass", "if (n < 0", "if (day + n > 9999) return -3; if (n < 0")
        .by(() -> {
          Face x = fresh();
          goTo(x, 9999);
          is(x.pass(61), -2);
          is(x.pass(-1), -2);
        });
  }

  private void on() {
    edge(TERMS, "ON n DAYS (0 .. 60)", "0").broken("on", "n < 0", "n < 1").broken("behind", "i < n", "i < Math.max(1, n)").by(() -> {
      Face x = with(0, 0, 0b11);
      is(x.on(0, 0), 0);
      is(x.on(0, 2), 0);
      is(x.on(0, 10), 0b11);
    });
    edge(TERMS, "ON n DAYS (0 .. 60)", "60").broken("on", "n > 60", "n > 59").broken("behind", "i < n", "i < Math.min(59, n)").by(() -> {
      Face x = with(0, 0, 0);
      is(bridge(x, "free 60"), 0);
      x.pass(1);
      x.learn(0, 1);
      is(x.on(59, 1), 0);
      is(x.on(60, 1), 1);
    });
    edge(13, "what 0 TAKEN, 1 HEARD, 2 who is BEYOND (bits)", "the first and the last")
        .broken("on", "return m.takenSet", "return m.takenSet & 2047")
        .broken("on", "return m.heardSet", "return m.heardSet & ~1")
        .broken("on", "return m.beyondSet()", "return m.beyondSet() & 31")
        .by(() -> {
          Face x = fresh();
          for (int p = 0; p < 6; p++) x.one(0, 0, p == 0 ? 1 : p == 5 ? 2048 : 0);
          is(x.on(1, 0), 0b100000000001);
          is(x.on(1, 2), 0b100001);
          x.ford(0, true);
          x.ford(5, true);
          is(x.on(1, 1), 0b100000000001);
          is(x.on(1, 0), 0);
        });
    edge(13, "10 and p what PERSON p HAS (bits)", "the first and the last")
        .broken("on", "what >= 10", "what >= 11")
        .broken("on", "what >= 10 && isPerson(what - 10)", "what >= 10 && what < 15 && isPerson(what - 10)")
        .by(() -> {
          Face x = fresh();
          for (int p = 0; p < 6; p++) x.one(0, 0, 1 << p);
          is(x.on(0, 10), 1);
          is(x.on(0, 15), 32);
        });
    edge(13, "NONE; BAD: n.", "what")
        .broken("on", "what == 2 ||", "what == 2 || what == 3 ||")
        .broken("on", "isPerson(what - 10)", "what <= 15")
        .by(() -> {
          Face x = with(0, 0, 1);
          for (int what : new int[] {LOW, LOW + 9, LOW + 10, -1, 3, 9, 11, 15, 16, HIGH}) is(x.on(1, what), -1);
        });
    edge(13, "NONE; BAD: n.", "n too small").broken("on", "n < 0", "n < -1").by(() -> {
      for (int n : new int[] {-1, LOW}) for (int what : new int[] {0, 1, 2, 10}) is(with(0, 0, 1).on(n, what), -2);
    });
    edge(13, "NONE; BAD: n.", "n too large").broken("on", "n > 60", "n > 61").by(() -> {
      for (int n : new int[] {61, HIGH}) for (int what : new int[] {0, 1, 2, 10}) is(with(0, 0, 1).on(n, what), -2);
    });
    edge(13, "NONE; BAD: n.", "in this order").broken("on", "if (!isWhat)", "if (n > 60) return -2; if (!isWhat)").by(() -> {
      is(fresh().on(61, 3), -1);
      is(fresh().on(61, 10), -1);
    });
  }

  private void decoy() {
    edge(14, "NONE.", "person").broken("decoy", "!isPerson(person) ||", "people.isEmpty() ||").by(() -> {
      Face x = with(0, 0, 1);
      for (int p : NOBODY) is(x.decoy(p, 0), -1);
      is(fresh().decoy(0, 0), -1);
    });
    edge(14, "NONE.", "sentence").broken("isSentence", "s >= 0", "s >= -1").broken("isSentence", "s <= 11", "s <= 12").by(() -> {
      Face x = with(0, 0, 4095);
      for (int s : NO_SENTENCE) is(x.decoy(0, s), -1);
    });
    edge(14, "DECOY (bits); -5.").broken("decoy", "int best = -5", "int best = -1").by(() -> {
      Face x = with(0, 0, 0b1);
      worths(x, 5, 6);
      is(x.decoy(0, 0), 0b10);
      worths(x, 6, 6);
      is(x.decoy(0, 0), -5);
    });
  }

  private void see() {
    edge(15, "(person -1: none then, 0)")
        .broken("see", "seen.clear(); return 0", "return seen.size()")
        .broken("see", "if (person == -1)", "if (person == -1 && sentence >= -1 && sentence < 12)")
        .by(() -> {
          Face x = with(0, 0, 1);
          is(x.see(-1, 0), 0);
          x.see(0, 0);
          x.see(0, 1);
          is(x.see(-1, 99), 0);
          is(x.count(2), 0);
          is(x.of(0, 7), 4096);
        });
    edge(15, "NONE: person, sentence (-1: none)", "person")
        .broken("see", "!isPerson(person) ||", "person < -1 || person > 5 ||")
        .broken("see", "person == -1", "person < 0")
        .by(() -> {
          Face x = with(0, 0, 1);
          for (int p : new int[] {-2, 1, 5, 6, LOW, HIGH}) is(x.see(p, 0), -1);
          is(x.count(2), 0);
        });
    edge(15, "NONE: person, sentence (-1: none)", "sentence")
        .broken("see", "sentence != -1 && !isSentence(sentence)", "sentence > 11")
        .broken("see", "!isSentence(sentence)", "sentence < 0")
        .by(() -> {
          Face x = with(0, 0, 1);
          for (int s : new int[] {-2, 12, LOW, HIGH}) is(x.see(0, s), -1);
          is(x.count(2), 0);
        });
    edge(15, "sentence (-1: none)", "-1 is taken as none")
        .broken("see", "sentence != -1 && !isSentence(sentence)", "!isSentence(sentence)")
        .by(() -> {
          Face x = with(0, 0, 1);
          is(x.see(0, -1), 1);
          is(x.can(0, 0), 0);
          x.learn(0, 0);
          is(x.can(0, 0), 10);
        });
    edge(15, "FULL: 5").broken("see", "seen.size() == 5", "seen.size() == 6").broken("see", "return -4", "return -2").by(() -> {
      Face x = with(0, 0, 1);
      for (int i = 1; i <= 5; i++) is(x.see(0, 0), i);
      is(x.see(0, -1), -4);
      is(x.count(2), 5);
      is(x.see(-1, 0), 0);
      is(x.see(0, 0), 1);
    });
    edge(15, "NONE: person, sentence (-1: none); FULL: 5.", "in this order")
        .broken("see", "if (!isPerson", "if (seen.size() == 5) return -4; if (!isPerson")
        .by(() -> {
          Face x = with(0, 0, 1);
          for (int i = 1; i <= 5; i++) x.see(0, 0);
          is(x.see(1, 0), -1);
          is(x.see(0, 12), -1);
        });
  }

  private void can() {
    edge(16, "what 0 how many, 1 the least; -5")
        .broken("can", "found.isEmpty() ? -5", "found.isEmpty() ? -1")
        .broken("can", "if (what == 0) return", "if (what == 0 && !found.isEmpty()) return")
        .by(() -> {
          Face x = with(0, 0, 1);
          x.see(0, -1);
          is(x.can(0, 0), 0);
          is(x.can(0, 1), -5);
        });
    edge(16, "NONE.", "person").broken("can", "!isPerson(person) ||", "people.isEmpty() ||").by(() -> {
      Face x = with(0, 0, 1);
      for (int p : NOBODY) is(x.can(p, 0), -1);
      is(fresh().can(0, 1), -1);
    });
    edge(16, "NONE.", "what")
        .broken("can", "what != 0 && what != 1", "what < 0")
        .broken("can", "what != 0 && what != 1", "what > 1")
        .by(() -> {
          Face x = with(0, 0, 1);
          for (int what : new int[] {-1, 2, LOW, HIGH}) is(x.can(0, what), -1);
        });
  }

  private void odds() {
    edge(17, "NO: person, part.", "person").broken("odds", "!isPerson(person) ||", "people.isEmpty() ||").by(() -> {
      Face x = with(0, 0, 1);
      for (int p : NOBODY) is(x.odds(p, 0), NO);
      is(fresh().odds(0, 1), NO);
    });
    edge(17, "NO: person, part.", "part")
        .broken("odds", "part != 0 && part != 1", "part < 0")
        .broken("odds", "part != 0 && part != 1", "part > 1")
        .by(() -> {
          Face x = with(0, 0, 1);
          for (int part : new int[] {-1, 2, LOW, HIGH}) is(x.odds(0, part), NO);
        });
    edge(17, "part 0 above, 1 below the line").broken("lowest", "part == 0", "part == 1").by(() -> {
      Face x = with(0, 0, 0);
      worths(x, 1, 1, 1, 1, 1);
      is(x.odds(0, 0), 5);
      is(x.odds(0, 1), 12);
    });
  }

  private void mean() {
    edge(18, "NO.", "n").broken("mean", "n < 0", "n < -1").broken("mean", "n > 60", "n > 61").by(() -> {
      Face x = with(0, 0, 1);
      x.ford(0, true);
      x.pass(1);
      for (int n : new int[] {-1, 61, LOW, HIGH}) is(x.mean(n, 0), NO);
    });
    edge(18, "NO.", "part")
        .broken("mean", "part != 0 && part != 1", "part < 0")
        .broken("mean", "part != 0 && part != 1", "part > 1")
        .by(() -> {
          Face x = with(0, 0, 1);
          x.ford(0, true);
          for (int part : new int[] {-1, 2, LOW, HIGH}) is(x.mean(1, part), NO);
        });
    edge(18, "NO.", "none is HEARD").broken("mean", "all == 0 ? Long.MIN_VALUE", "all == 0 ? 0").by(() -> {
      is(fresh().mean(0, 0), NO);
      is(fresh().mean(60, 1), NO);
    });
    edge(18, "part likewise").broken("mean", "lowest(sum, all, part)", "lowest(sum, all, 1 - part)").by(() -> {
      Face x = with(0, 0, 0b111);
      x.ford(0, true);
      worths(x, 20, 20, 1);
      is(x.mean(3, 0), 41);
      is(x.mean(3, 1), 3);
    });
  }

  private void plan() {
    edge(19, "(what -1: it is empty then, 0)")
        .broken("plan", "planned.clear(); return 0", "return planned.size()")
        .broken("plan", "if (what == -1)", "if (what == -1 && isPerson(n))")
        .by(() -> {
          Face x = with(0, 0, 0);
          is(x.plan(-1, 0), 0);
          x.plan(0, 0);
          is(x.plan(-1, 99), 0);
          is(x.count(3), 0);
          is(x.ends(1), 0);
        });
    edge(19, "NONE: what (0 .. 3)").broken("plan", "what < 0", "what < -2").broken("plan", "what > 3", "what > 4").by(() -> {
      Face x = with(0, 0, 0);
      for (int what : new int[] {-2, 4, LOW, HIGH}) is(x.plan(what, 0), -1);
      is(x.count(3), 0);
      for (int what = 0; what <= 3; what++) is(x.plan(what, 0), what + 1);
    });
    edge(19, "person (by 1, 2)", "by 1").broken("plan", "(what == 1 || what == 2)", "(what == 2)").by(() -> {
      Face x = with(0, 0, 0);
      for (int p : NOBODY) is(x.plan(1, p), -1);
    });
    edge(19, "person (by 1, 2)", "by 2").broken("plan", "(what == 1 || what == 2)", "(what == 1)").by(() -> {
      Face x = with(0, 0, 0);
      for (int p : NOBODY) is(x.plan(2, p), -1);
    });
    edge(19, "sentence (by 3;")
        .broken("plan", "if (what == 3 && !isSentence(n)) return -1;", "")
        .broken("plan", "what == 3 && !isSentence(n)", "what == 3 && !isPerson(n)")
        .by(() -> {
          Face x = with(0, 0, 0);
          for (int s : NO_SENTENCE) is(x.plan(3, s), -1);
          is(x.plan(3, 0), 1);
          is(x.plan(3, 11), 2);
        });
    edge(19, "by 0 n does not matter").broken("plan", "(what == 1 || what == 2) && !isPerson(n)", "what < 3 && !isPerson(n)").by(() -> {
      Face x = fresh();
      int[] any = {LOW, -1, 12, HIGH};
      for (int i = 0; i < 4; i++) is(x.plan(0, any[i]), i + 1);
      is(x.ends(1), 0);
    });
    edge(19, "FULL: 10").broken("plan", "planned.size() == 10", "planned.size() == 11").broken("plan", "return -4", "return -2").by(() -> {
      Face x = with(0, 0, 0);
      for (int i = 1; i <= 10; i++) is(x.plan(i % 4, 0), i);
      is(x.plan(0, 0), -4);
      is(x.count(3), 10);
      is(x.plan(-1, 0), 0);
      is(x.plan(0, 0), 1);
    });
    edge(19, "NONE: what (0 .. 3), person (by 1, 2), sentence (by 3; by 0 n does not matter); FULL: 10.", "in this order")
        .broken("plan", "if (what < 0", "if (planned.size() == 10) return -4; if (what < 0")
        .by(() -> {
          Face x = with(0, 0, 0);
          for (int i = 1; i <= 10; i++) x.plan(0, 0);
          is(x.plan(4, 0), -1);
          is(x.plan(1, 1), -1);
          is(x.plan(3, 12), -1);
        });
  }

  private void ends() {
    edge(20, "NONE.").broken("ends", "what != 0 && what != 1", "what < 0").broken("ends", "what != 0 && what != 1", "what > 1").by(() -> {
      Face x = with(0, 0, 0);
      for (int what : new int[] {-1, 2, LOW, HIGH}) is(x.ends(what), -1);
    });
    edge(20, "what 0 HEARD, 1 BACK", "without a PLAN all is as it is")
        .broken("ends", "Model m = copy()", "Model m = planned.isEmpty() ? new Model() : copy()")
        .by(() -> {
          Face x = with(0, 0, 0);
          x.one(0, 0, 1);
          x.ford(1, true);
          x.pass(3);
          is(x.ends(0), 1);
          is(x.ends(1), 3);
        });
  }

  private void book() {
    edge(21, "(sentence -1: it is empty then, 0)")
        .broken("book", "booked.clear(); return 0", "return booked.size()")
        .broken("book", "if (sentence == -1)", "if (sentence == -1 && worth <= 20)")
        .by(() -> {
          Face x = fresh();
          is(x.book(-1, 0), 0);
          x.book(0, 0);
          is(x.looked(), 0);
          is(x.book(-1, 99), 0);
          is(x.count(4), 0);
          is(x.looked(), -5);
        });
    edge(21, "NONE", "sentence")
        .broken("book", "if (!isSentence(sentence)) return -1;", "if (sentence > 11) return -1;")
        .broken("book", "if (!isSentence(sentence)) return -1;", "if (sentence < 0) return -1;")
        .by(() -> {
          Face x = fresh();
          for (int s : new int[] {-2, 12, LOW, HIGH}) is(x.book(s, 10), -1);
          is(x.count(4), 0);
        });
    edge(21, "BAD: worth", "too small").broken("book", "worth < 0", "worth < -1").by(() -> {
      for (int n : new int[] {-1, LOW}) is(fresh().book(11, n), -2);
    });
    edge(21, "BAD: worth", "too large").broken("book", "worth > 20", "worth > 21").by(() -> {
      for (int n : new int[] {21, HIGH}) is(fresh().book(0, n), -2);
    });
    edge(21, "FULL: 8").broken("book", "booked.size() == 8", "booked.size() == 9").broken("book", "return -4", "return -2").by(() -> {
      Face x = fresh();
      for (int i = 1; i <= 8; i++) is(x.book(0, 10), i);
      is(x.book(0, 0), -4);
      is(x.count(4), 8);
      is(x.looked(), -5);
      is(x.book(-1, 0), 0);
      is(x.book(0, 0), 1);
    });
    edge(21, "NONE; BAD: worth; FULL: 8.", "in this order")
        .broken("book", "if (!isSentence", "if (worth > 20) return -2; if (!isSentence")
        .broken("book", "if (!isSentence", "if (booked.size() == 8) return -4; if (!isSentence")
        .broken("book", "if (worth < 0", "if (booked.size() == 8) return -4; if (worth < 0")
        .by(() -> {
          Face x = fresh();
          is(x.book(12, 21), -1);
          for (int i = 1; i <= 8; i++) x.book(0, 10);
          is(x.book(12, 0), -1);
          is(x.book(0, 21), -2);
        });
  }

  private void looked() {
    edge(22, "LOOKED at; -5.").broken("looked", "return -5", "return 0").by(() -> {
      Face x = fresh();
      is(x.looked(), -5);
      for (int i = 0; i < 8; i++) x.book(i, 10);
      is(x.looked(), -5);
      x.worth(0, 0);
      is(x.looked(), 0);
    });
  }
}
