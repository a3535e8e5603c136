/** Boundary cases of the Terms, part 1: what is at first, SUM, URGE, TIP, a DAY. */
final class TermEdges extends Edges {
  TermEdges() {
    calls();
    atFirst();
    limits();
    sums();
    urges();
    tips();
    people();
    evenings();
    refusals();
  }

  private void calls() {
    edge(TERMS, "An object is used for at most 512 calls after it has been made")
        .broken("worth", "int worth(int sentence, int n) {", "int calls; public int worth(int sentence, int n) { if (++calls == 512) return -4;")
        .by(() -> {
          Face x = fresh();
          for (int i = 1, was = 10; i <= 512; i++, was = (i - 1) % 21) is(x.worth(0, i % 21), was);
        });
  }

  private void atFirst() {
    edge(TERMS, "10 at first").broken("Model", "Arrays.fill(worths, 10)", "Arrays.fill(worths, 1, 11, 10)").by(() -> {
      Face x = fresh();
      for (int s = 0; s < 12; s++) is(x.told(10 + s), 10);
    });
    edge(TERMS, "TAKEN and HEARD are sets of them (none at first)")
        .broken("", "int takenSet,", "int takenSet = 1,")
        .broken("", "heardSet, day", "heardSet = 2048, day")
        .by(() -> {
          Face x = fresh();
          is(x.told(2), 0);
          is(x.told(3), 0);
        });
    edge(TERMS, "BEYOND the bridge, or not (not at first)").broken("", "boolean beyond;", "boolean beyond = true;").by(() -> {
      Face x = with(0, 0, 1);
      is(x.of(0, 3), 0);
      is(x.told(4), 0);
    });
    edge(TERMS, "0 .. 9999; 0 at first").broken("", "has, back;", "has, back = 1;").by(() -> is(with(0, 0, 1).of(0, 4), 0));
    edge(TERMS, "DAY: 0 at first").broken("", "heardSet, day,", "heardSet, day = 1,").by(() -> is(fresh().told(0), 0));
    edge(TERMS, "its ROW (four numbers 0 .. 9; 0 at first)").broken("", "int[] row = new int[4]", "int[] row = {0, 0, 0, 1}").by(() -> {
      Face x = with(6, 0, 0);
      for (int part = 0; part < 4; part++) is(x.row(0, part, 9), 0);
    });
  }

  private void limits() {
    edge(TERMS, "sets of them as bits (0 .. 4095)")
        .broken("learn", "sentences < 0", "sentences < 1")
        .broken("learn", "sentences > 4095", "sentences > 4094")
        .by(() -> {
          Face x = with(0, 0, 1);
          is(x.learn(0, 0), 1);
          is(x.learn(0, 4095), 0);
          is(x.of(0, 2), 4095);
        });
    edge(TERMS, "each of a WORTH (0 .. 20;")
        .broken("worth", "n < 0", "n < 1")
        .broken("worth", "n > 20", "n > 19")
        .by(() -> {
          Face x = fresh();
          is(x.worth(11, 0), 10);
          is(x.worth(11, 20), 0);
          is(x.told(21), 20);
        });
    edge(TERMS, "PEOPLE 0 .. 5, as they come")
        .broken("one", "return people.size() - 1", "return people.size()")
        .broken("one", "people.size() == 6", "people.size() == 5")
        .by(() -> {
          Face x = fresh();
          for (int p = 0; p < 6; p++) is(x.one(p, 9 - p, 1 << p), p);
          for (int p = 0; p < 6; p++) is(x.of(p, 0), p);
        });
    edge(TERMS, "are of KINDS: 0 ONE; 1 POET, 2 CLERK, 3 LOVER under ONE; 4 ORATOR under POET; 5 CHILD under CLERK; 6 TOLD under LOVER")
        .broken("", "ABOVE = {-1, 0, 0, 0, 1, 2, 3}", "ABOVE = {-1, 0, 0, 0, 1, 3, 2}")
        .broken("", "ABOVE = {-1, 0, 0, 0, 1, 2, 3}", "ABOVE = {-1, 0, 0, 0, 0, 2, 3}")
        .by(() -> {
          String[] line = {"0", "01", "02", "03", "014", "025", "036"};
          for (int kind = 0; kind <= 6; kind++) {
            for (int k = 0; k <= 6; k++) is(with(kind, 0, 0).taken(0, k), line[kind].indexOf('0' + k) >= 0 ? kind : -12);
          }
        });
    edge(TERMS, "with a number v (0 .. 9)")
        .broken("one", "v < 0", "v < 1")
        .broken("one", "v > 9", "v > 8")
        .by(() -> {
          Face x = fresh();
          is(x.one(0, 0, 0), 0);
          is(x.one(0, 9, 0), 1);
          is(x.of(0, 1), 0);
          is(x.of(1, 1), 9);
        });
  }

  private void refusals() {
    edge(TERMS, "NONE (-1) no such number; BAD (-2) a number is not as told; STATE (-3) as told; FULL (-4)")
        .broken("row", "return -1", "return -2")
        .broken("row", "return -2", "return -1")
        .broken("row", "return -3", "return -12")
        .broken("bridge", "return -4", "return -3")
        .by(() -> {
          Face x = with(0, 0, 0);
          is(x.row(1, 0, 0), -1);
          is(x.row(0, 0, 10), -2);
          is(x.row(0, 0, 9), -3);
          for (int i = 0; i < 6; i++) is(bridge(x, "free 1"), i);
          is(x.bridge(), -4);
        });
    edge(TERMS, "Where it may be below 0, -10001 stands for NONE").broken("urge", "return -10001", "return -1").by(() -> {
      Face x = with(4, 0, 0);
      is(bridge(x, "hold 11 s=1;hold 99 s=2" + ";hold 99 s<3".repeat(6)), 0);
      is(x.urge(0, 1), 10 - 11 - 594);
      is(x.urge(0, 2), (10 - 99 - 594) * 2);
      is(x.urge(1, 1), -10001);
      is(x.urge(0, 12), -10001);
    });
    edge(TERMS, "NOTHING (-11): nothing is there")
        .broken("item", "return -11", "return -1")
        .broken("shift", "return -11", "return -1")
        .broken("taken", "return -11", "return -1")
        .by(() -> {
          Face x = fresh();
          is(x.item(0, 0, 0), -11);
          is(x.shift(0, 0, 0, 0, 0), -11);
          is(x.taken(0, 0), -11);
        });
    edge(TERMS, "CAST (-12): another sort or KIND")
        .broken("judge", "return -12", "return -2")
        .broken("shift", "return -12", "return -2")
        .broken("taken", "return -12", "return -2")
        .by(() -> {
          Face x = with(0, 0, 0);
          x.tape(0, 0, 1);
          x.tape(1, 1, 1);
          is(x.judge(0, 0), -12);
          is(x.shift(0, 0, 1, 0, 1), -12);
          is(x.taken(0, 1), -12);
        });
    edge(TERMS, "PLACE (-13): no such place")
        .broken("item", "return -13", "return -1")
        .broken("shift", "return -13", "return -1")
        .by(() -> {
          Face x = fresh();
          x.tape(0, 0, 1);
          is(x.item(0, 1, 0), -13);
          is(x.shift(0, 1, 0, 0, 1), -13);
        });
    edge(TERMS, "SIZE (-14): a size below 0").broken("tape", "return -14", "return -13").by(() -> is(fresh().tape(0, 0, -1), -14));
  }

  private void sums() {
    edge(TERMS, "without one there are no CLAUSES").broken("sum", "if (held < 0) return sum", "if (held < 0) return sum + 1").by(() -> {
      Face x = with(0, 0, 1);
      x.worth(0, 0);
      x.worth(11, 20);
      is(x.urge(0, 0), 0);
      is(x.urge(0, 11), 20);
    });
    edge(TERMS, "the n of all press whose E holds, less those of all hold, together (may be below 0)")
        .broken("sum", "    return sum;\n  }", "    return Math.max(sum, 0);\n  }")
        .broken("sum", "sum -= Integer.parseInt(parts[1])", "sum = Math.max(0, sum - Integer.parseInt(parts[1]))")
        .by(() -> {
          Face x = with(0, 0, 0);
          is(bridge(x, "hold 99 p=0;hold 99 p=0;press 5 s=1;press 7 p=1;hold 9 p=1"), 0);
          is(x.urge(0, 0), 10 - 198);
          is(x.urge(0, 1), 10 - 198 + 5);
        });
    edge(TERMS, "the n of all press whose E holds, less those of all hold, together (may be below 0)", "n is 0, or 99")
        .broken("sum", "sum += Integer.parseInt(parts[1])", "sum += Math.max(1, Integer.parseInt(parts[1]))")
        .broken("sum", "sum -= Integer.parseInt(parts[1])", "sum -= Math.max(1, Integer.parseInt(parts[1]))")
        .broken("sum", "sum += Integer.parseInt(parts[1])", "sum += Math.min(98, Integer.parseInt(parts[1]))")
        .broken("sum", "sum -= Integer.parseInt(parts[1])", "sum -= Math.min(98, Integer.parseInt(parts[1]))")
        .by(() -> {
          Face x = with(0, 0, 0);
          is(bridge(x, "press 0 p=0;press 99 s=1;hold 00 p=0;hold 99 s=2"), 0);
          is(x.urge(0, 0), 10);
          is(x.urge(0, 1), 109);
          is(x.urge(0, 2), -89);
        });
    edge(TERMS, "FREE (0 without)", "no BRIDGE").broken("free", "int free = 0", "int free = held < 0 ? 1 : 0").by(() -> {
      Face x = with(0, 0, 1);
      is(x.told(1), 0);
      x.pass(1);
      is(x.told(2), 1);
    });
    edge(TERMS, "FREE (0 without)", "a BRIDGE without one").broken("free", "int free = 0", "int free = held < 0 ? 0 : 1").by(() -> {
      Face x = with(0, 0, 1);
      is(bridge(x, "free 7"), 0);
      is(bridge(x, "press 5 p=0"), 1);
      is(x.told(1), 0);
      x.pass(1);
      is(x.told(2), 1);
    });
    edge(TERMS, "the last one's n")
        .broken("free", "free = Integer", "free += Integer")
        .broken("free", "startsWith(\"free \")", "startsWith(\"free \") && !clause.equals(\"free 0\")")
        .by(() -> {
          Face x = fresh();
          is(bridge(x, "free 9;free 99"), 0);
          is(x.told(1), 99);
          is(bridge(x, "free 5;free 0"), 1);
          is(x.told(1), 0);
        });
  }

  private void urges() {
    edge(TERMS, "URGE of one for a SENTENCE (may be below 0): ONE: SUM")
        .broken("urgeBySum", "case 0: return sum", "case 0: return Math.max(0, sum)")
        .by(() -> {
          Face x = with(0, 9, 7);
          is(bridge(x, "hold 11 s=0;hold 10 s=1"), 0);
          is(x.urge(0, 0), -1);
          is(x.urge(0, 1), 0);
        });
    edge(TERMS, "POET: SUM; v more, if it is BEYOND")
        .broken("urgeBySum", "one.beyond ? one.v : 0", "one.v")
        .broken("urgeBySum", "one.beyond ? one.v : 0", "0")
        .by(() -> {
          Face x = with(1, 9, 7);
          is(x.urge(0, 3), 10);
          x.ford(0, true);
          is(x.urge(0, 3), 19);
        });
    edge(TERMS, "CLERK: the half (cut toward 0) of SUM")
        .broken("urgeBySum", "case 2: return sum / 2", "case 2: return sum >> 1")
        .broken("urgeBySum", "case 2: return sum / 2", "case 2: return (sum + 1) / 2")
        .by(() -> {
          Face x = with(2, 9, 7);
          worths(x, 1, 3, 5, 6);
          is(bridge(x, "hold 6 s=2|s=1"), 0);
          is(x.urge(0, 0), 0);
          is(x.urge(0, 1), -1);
          is(x.urge(0, 2), 0);
          is(x.urge(0, 3), 3);
        });
    edge(TERMS, "LOVER: SUM, less how many SENTENCES it HAS")
        .broken("urgeBySum", "sum - Integer.bitCount(one.has)", "sum - Math.max(1, Math.min(11, Integer.bitCount(one.has)))")
        .by(() -> {
          Face x = with(3, 9, 0);
          is(x.urge(0, 0), 10);
          x.learn(0, 4095);
          is(x.urge(0, 11), -2);
        });
    edge(TERMS, "ORATOR: as POET; twice that, if the number of the SENTENCE is even")
        .broken("urgeBySum", "case 4: return s % 2 == 0", "case 4: return s > 0 && s % 2 == 0")
        .broken("urgeBySum", "? 2 * poet : poet", "? 2 * Math.max(poet, 0) : poet")
        .by(() -> {
          Face x = with(4, 3, 0);
          is(bridge(x, "hold 15 s>9"), 0);
          is(x.urge(0, 0), 20);
          is(x.urge(0, 1), 10);
          is(x.urge(0, 10), -10);
          is(x.urge(0, 11), -5);
          x.ford(0, true);
          is(x.urge(0, 0), 26);
          is(x.urge(0, 10), -4);
        });
    edge(TERMS, "CHILD: as CLERK, less BACK (9 at most)")
        .broken("urgeBySum", "one.back > 9 ? 9", "one.back > 10 ? 10")
        .broken("urgeBySum", "one.back > 9 ? 9", "one.back > 8 ? 8")
        .by(() -> {
          Face x = with(5, 0, 0);
          x.worth(0, 1);
          for (int back = 0; back <= 11; back++) {
            is(x.of(0, 4), back);
            is(x.urge(0, 0), -Math.min(back, 9));
            x.pass(1);
          }
        });
    edge(TERMS, "at SENTENCE modulo 4 more")
        .broken("urgeBySum", "one.row[s % 4]", "one.row[Math.min(s, 3)]")
        .broken("urgeBySum", "one.row[s % 4]", "one.row[s / 3]")
        .by(() -> {
          Face x = with(6, 0, 0);
          for (int part = 0; part < 4; part++) x.row(0, part, 9 - part);
          for (int s = 0; s < 12; s++) is(x.urge(0, s), 10 + new int[] {9, 8, 7, 6, 9, 8, 7, 6, 9, 8, 7, 6}[s]);
        });
  }

  private void tips() {
    edge(TERMS, "for which its URGE is greatest, if above 0")
        .broken("tipBySums", "most = 0", "most = -1")
        .broken("tipBySums", "most = 0", "most = 1")
        .by(() -> {
          Face x = with(0, 0, 0b11);
          worths(x, 0, 0);
          is(x.of(0, 5), -5);
          x.worth(1, 1);
          is(x.of(0, 5), 1);
        });
    edge(TERMS, "(of several the first)").broken("tipBySums", "u > most", "u >= most && u > 0").by(() -> {
      Face x = with(0, 0, 0b111000000110);
      is(x.of(0, 5), 1);
      x.learn(0, 0b110000000000);
      is(x.of(0, 5), 10);
    });
    edge(TERMS, "that of the SENTENCES it HAS").broken("tipBySums", "if (!has(people.get(person).has, s)) continue;", "").by(() -> {
      Face x = with(0, 0, 0b10);
      worths(x, 20, 1, 20);
      is(x.of(0, 5), 1);
    });
    edge(TERMS, "none, if there is none", "it HAS nothing")
        .broken("tip", "return tipBySums(", "return people.get(person).has == 0 ? 0 : tipBySums(")
        .by(() -> is(with(0, 0, 0).of(0, 5), -5));
    edge(TERMS, "none, if there is none", "no URGE is above 0")
        .broken("tipBySums", "return tip;", "return tip < 0 && people.get(person).has > 0 ? 11 : tip;")
        .by(() -> {
          Face x = with(3, 0, 4095);
          is(x.of(0, 5), -5);
        });
  }

  private void people() {
    edge(TERMS, "one who is not BEYOND and has a TIP HAS that no more, it is TAKEN, the one is BEYOND")
        .broken("goDay", "one.has -= 1 << tip;\n        takenSet", "takenSet")
        .broken("goDay", "takenSet |= 1 << tip;", "")
        .broken("goDay", "one.beyond = true;", "")
        .broken("goDay", "if (was && tip >= 0)", "if (one.beyond && tip >= 0)")
        .by(() -> {
          Face x = with(0, 0, 0b101);
          x.pass(1);
          is(x.of(0, 2), 0b100);
          is(x.told(2), 0b001);
          is(x.told(3), 0);
          is(x.of(0, 3), 1);
          is(x.of(0, 4), 0);
        });
    edge(TERMS, "one who is not BEYOND and has none: BACK is 1 more")
        .broken("goDay", "one.back++", "one.back += 2")
        .broken("goDay", "one.back++", "{ one.back++; one.beyond = true; }")
        .by(() -> {
          Face x = with(0, 0, 1);
          x.worth(0, 0);
          x.pass(1);
          is(x.of(0, 4), 1);
          is(x.of(0, 3), 0);
          is(x.of(0, 2), 1);
        });
    edge(TERMS, "BACK is 1 more (9999 at most)").broken("goDay", "one.back < 9999", "one.back < 9998").by(() -> {
      Face x = with(0, 0, 0);
      goTo(x, 9999);
      is(x.of(0, 4), 9999);
      is(x.pass(1), -3);
      is(x.of(0, 4), 9999);
    });
    edge(TERMS, "One who was BEYOND already and has a TIP HAS that no more, it is HEARD")
        .broken("goDay", "one.has -= 1 << tip;\n        heardSet", "heardSet")
        .broken("goDay", "heardSet |= 1 << tip;", "takenSet |= 1 << tip;")
        .by(() -> {
          Face x = with(0, 0, 0b1001);
          x.ford(0, true);
          x.pass(1);
          is(x.of(0, 2), 0b1000);
          is(x.told(2), 0);
          is(x.told(3), 0b0001);
          is(x.of(0, 3), 1);
        });
    edge(TERMS, "One who was BEYOND already and has a TIP", "it has none").broken("goDay", "if (!was && tip < 0", "if (tip < 0").by(() -> {
      Face x = with(0, 0, 0);
      x.ford(0, true);
      x.pass(3);
      is(x.of(0, 4), 0);
      is(x.of(0, 3), 1);
      is(x.told(3), 0);
    });
    edge(TERMS, "A DAY goes", "there is nobody")
        .broken("goDay", "day++;", "if (people.size() > 0) day++;")
        .by(() -> is(fresh().pass(1), 1));
  }

  private void evenings() {
    edge(TERMS, "if FREE is above 0").broken("goDay", "free > 0 && day % free == 0", "(free == 0 ? held >= 0 : day % free == 0)").by(() -> {
      Face x = with(0, 0, 1);
      is(bridge(x, "free 0"), 0);
      x.pass(5);
      is(x.told(2), 1);
      is(x.told(3), 0);
    });
    edge(TERMS, "and DAY a multiple of it", "DAY 0").broken("goDay", "day % free == 0", "day > 0 && day % free == 0").by(() -> {
      Face x = with(0, 0, 1);
      is(bridge(x, "free 99"), 0);
      x.pass(1);
      is(x.told(3), 1);
    });
    edge(TERMS, "and DAY a multiple of it", "the days around it")
        .broken("goDay", "day % free == 0", "day % free <= 1")
        .broken("goDay", "day % free == 0", "day % free == 0 && day <= free")
        .broken("goDay", "day % free == 0", "(day == 0 || day % free == 2)")
        .by(() -> {
          Face x = with(0, 0, 1);
          for (int p = 1; p < 4; p++) x.one(0, 0, 1 << p);
          is(bridge(x, "free 3"), 0);
          int[] heard = {0b1, 0b1, 0b1, 0b11, 0b11, 0b11, 0b111, 0b111, 0b111, 0b1111};
          for (int day = 0; day < 10; day++) {
            x.pass(1);
            is(x.told(3), heard[day]);
          }
        });
    edge(TERMS, "and DAY a multiple of it", "of 99")
        .broken("goDay", "day % free == 0", "day % Math.min(free, 98) == 0")
        .broken("goDay", "day % free == 0", "day == 0")
        .by(() -> {
          Face x = with(0, 0, 0);
          is(bridge(x, "free 99"), 0);
          goTo(x, 98);
          x.learn(0, 1);
          is(x.pass(1), 99);
          is(x.told(2), 1);
          is(x.pass(1), 100);
          is(x.told(3), 1);
        });
    edge(TERMS, "and DAY a multiple of it", "each DAY of 1").broken("goDay", "free > 0", "free > 1").by(() -> {
      Face x = with(0, 0, 1);
      x.one(0, 0, 2);
      is(bridge(x, "free 1"), 0);
      x.pass(2);
      is(x.told(3), 3);
      is(x.told(2), 0);
    });
    edge(TERMS, "the least of TAKEN, if there is one, is HEARD, and TAKEN no more")
        .broken("goDay", "for (int s = 0; s < 12; s++) {\n        if", "for (int s = 11; s >= 0; s--) {\n        if")
        .broken("goDay", "break; }", "}")
        .broken("hear", "takenSet -= 1 << s;", "")
        .by(() -> {
          Face x = with(0, 0, 1 << 11);
          x.one(0, 0, 1);
          x.one(0, 0, 1 << 5);
          is(bridge(x, "free 1"), 0);
          x.pass(1);
          is(x.told(3), 1);
          is(x.told(2), 1 << 11 | 1 << 5);
          x.pass(2);
          is(x.told(3), 1 << 11 | 1 << 5 | 1);
          is(x.told(2), 0);
        });
    edge(TERMS, "if there is one", "none is TAKEN")
        .broken("goDay", "&& takenSet != 0) {", ") { if (takenSet == 0) heardSet |= 1;")
        .by(() -> {
          Face x = with(0, 0, 0);
          is(bridge(x, "free 1"), 0);
          is(x.pass(3), 3);
          is(x.told(2), 0);
          is(x.told(3), 0);
        });
    edge(TERMS, "DAY is 1 more")
        .broken("goDay", "day++;", "day += 2;")
        .broken("goDay", "int tip = tip(i);", "day += i; int tip = tip(i); day -= i;")
        .by(() -> {
          Face x = with(0, 0, 0b01);
          x.one(0, 0, 0b10);
          is(bridge(x, "hold 99 !d=0"), 0);
          is(x.pass(1), 1);
          is(x.told(2), 0b11);
          x.learn(0, 1);
          x.pass(1);
          is(x.of(0, 2), 1);
        });
  }
}
