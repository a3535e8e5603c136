/** Boundary cases of the Terms, part 2: what is asked, what is told by hand, ACTS. */
final class AskedEdges extends Edges {
  AskedEdges() {
    beyondTheLastDay();
    comes();
    decoys();
    dear();
    had();
    worthsAndCan();
    odds();
    means();
    plans();
    books();
    wrapping();
    bodies();
  }

  /** On DAY 9999, with one who was turned back each time and has now something to say. */
  private Face lastDay(int has) {
    Face x = with(0, 0, 0);
    goTo(x, 9999);
    x.learn(0, has);
    return x;
  }

  private void beyondTheLastDay() {
    edge(TERMS, "(DAYS, BACK beyond 9999, too)", "DAYS, by on").broken("behind", "m.goDay()", "if (m.day < 9999) m.goDay()").by(() -> {
      Face x = lastDay(0b11);
      is(x.on(1, 0), 0b01);
      is(x.on(2, 1), 0b10);
      is(x.on(60, 10), 0);
    });
    edge(TERMS, "(DAYS, BACK beyond 9999, too)", "DAYS, by told").broken("told", "m.goDay()", "if (m.day < 9999) m.goDay()").by(() -> {
      Face x = lastDay(0b11);
      is(x.told(31), 2);
      is(bridge(x, "hold 99 !d=1"), 0);
      is(x.told(31), 13);
    });
    edge(TERMS, "(DAYS, BACK beyond 9999, too)", "DAYS, by mean")
        .broken("mean", "Model m = behind(n)", "Model m = behind(Math.min(n, 9999 - day))")
        .by(() -> is(lastDay(0b11).mean(2, 0), 10));
    edge(TERMS, "(DAYS, BACK beyond 9999, too)", "BACK, by ends").broken("goDay", "asked || one.back < 9999", "one.back < 9999").by(() -> {
      Face x = lastDay(0);
      for (int i = 0; i < 10; i++) x.plan(0, 0);
      is(x.ends(1), 10009);
      is(x.of(0, 4), 9999);
    });
  }

  private void comes() {
    edge(TERMS, "the fewest DAYS (0 .. 60) behind which it is HEARD", "0")
        .broken("told", "for (int n = 0; n <= 60; n++)", "for (int n = 1; n <= 60; n++)")
        .by(() -> {
          Face x = with(0, 0, 1);
          x.ford(0, true);
          is(x.told(30), 1);
          x.pass(1);
          is(x.told(30), 0);
        });
    edge(TERMS, "the fewest DAYS (0 .. 60) behind which it is HEARD", "60").broken("told", "n <= 60", "n < 60").by(() -> {
      Face x = with(0, 0, 0);
      is(bridge(x, "free 60"), 0);
      x.pass(1);
      x.learn(0, 1 << 11);
      is(x.told(41), 60);
    });
    edge(TERMS, "(-5: not by then)").broken("told", "n <= 60", "n <= 61").by(() -> {
      Face x = with(0, 0, 0);
      is(bridge(x, "free 61"), 0);
      x.pass(1);
      x.learn(0, 1 << 11);
      is(x.told(41), -5);
      is(x.told(30), -5);
    });
  }

  private void decoys() {
    edge(TERMS, "the set with the fewest SENTENCES it does not have").broken("decoy", "|| Integer.bitCount(set) >= fewest", "").by(() -> {
      Face x = with(0, 0, 0b0010);
      worths(x, 5, 6, 7);
      is(x.decoy(0, 1), 0b0100);
      x.learn(0, 0b0011);
      is(x.decoy(0, 1), 0b0100);
    });
    edge(TERMS, "of several the least as bits")
        .broken("decoy", "for (int set = 0; set < 4096; set++)", "for (int set = 4095; set >= 0; set--)")
        .by(() -> {
          Face x = with(0, 0, 1);
          worths(x, 1, 1, 5, 9, 9);
          is(x.decoy(0, 0), 0b100);
        });
    edge(TERMS, "by which, had it these now, too, it has a TIP", "it has another now: the empty set")
        .broken("decoy", "for (int set = 0;", "for (int set = 1;")
        .by(() -> {
          Face x = with(0, 0, 0b11);
          worths(x, 5, 6, 20);
          is(x.decoy(0, 0), 0);
        });
    edge(TERMS, "it has a TIP, and that is another SENTENCE", "a TIP that is lost is none")
        .broken("decoy", "if (tip != -5 && tip != sentence)", "if (tip != sentence)")
        .by(() -> {
          Face x = with(3, 0, 0b1);
          worths(x, 2, 1);
          is(x.of(0, 5), 0);
          is(x.decoy(0, 0), -5);
          x.worth(11, 3);
          is(x.decoy(0, 0), 1 << 11);
        });
    edge(TERMS, "it has a TIP, and that is another SENTENCE", "as great a one behind it is none, one ahead of it is")
        .broken("tipBySums", "u > most", "u >= most && u > 0")
        .by(() -> {
          Face x = with(0, 0, 0b10);
          worths(x, 0, 5, 5);
          is(x.decoy(0, 1), -5);
          x.worth(0, 5);
          is(x.decoy(0, 1), 1);
        });
    edge(TERMS, "(-5: none, or it does not have the told one)", "it has all").broken("decoy", "int best = -5", "int best = 0").by(() -> {
      Face x = with(0, 0, 4095);
      is(x.decoy(0, 0), -5);
      is(x.decoy(0, 11), 0);
    });
    edge(TERMS, "(-5: none, or it does not have the told one)", "it does not have it")
        .broken("decoy", "if (!has(had, sentence)) return -5;", "")
        .by(() -> {
          Face x = with(0, 0, 0b10);
          is(x.decoy(0, 0), -5);
          x.learn(0, 0);
          is(x.decoy(0, 11), -5);
        });
  }

  private void dear() {
    edge(TERMS, "by how much WORTH of its TIP may be less (0 .. 20;", "0")
        .broken("dear", "for (int less = 0;", "for (int less = 1;")
        .by(() -> {
          Face x = with(0, 0, 0b11);
          worths(x, 5, 6);
          is(x.of(0, 6), 0);
        });
    edge(TERMS, "by how much WORTH of its TIP may be less (0 .. 20;", "1").broken("dear", "return most;", "return most == 1 ? 0 : most;").by(() -> {
      Face x = with(0, 0, 0b11);
      worths(x, 6, 5);
      is(x.of(0, 6), 1);
      worths(x, 5, 7);
      is(x.of(0, 6), 1);
    });
    edge(TERMS, "by how much WORTH of its TIP may be less (0 .. 20;", "20")
        .broken("dear", "less <= 20", "less < 20")
        .broken("dear", "less <= 20", "less <= 21")
        .by(() -> {
          Face x = with(0, 0, 1);
          is(bridge(x, "press 1 s=0"), 0);
          x.worth(0, 20);
          is(x.of(0, 6), 20);
        });
    edge(TERMS, "cut at 0").broken("dear", "Math.max(0, worths[tip] - less)", "worths[tip] - less").by(() -> {
      Face x = with(0, 0, 1);
      is(bridge(x, "press 1 s=0"), 0);
      x.worth(0, 3);
      is(x.of(0, 6), 20);
      x.worth(0, 0);
      is(x.of(0, 6), 20);
    });
    edge(TERMS, "so that it still is its TIP", "beside as great a one").broken("tipBySums", "u > most", "u >= most && u > 0").by(() -> {
      Face x = with(0, 0, 0b11);
      worths(x, 9, 4);
      is(x.of(0, 6), 5);
      worths(x, 4, 9);
      is(x.of(0, 6), 4);
    });
    edge(TERMS, "the greatest number (-5: it has none)", "one between would not do")
        .broken("dear", "most = less;", "most = less; else break;")
        .by(() -> {
          Face x = with(0, 0, 1);
          is(bridge(x, "hold 20 w=5"), 0);
          is(x.of(0, 6), 9);
        });
    edge(TERMS, "the greatest number (-5: it has none)", "it has none")
        .broken("dear", "if (tip < 0) return -5", "if (tip < 0) return 0")
        .by(() -> {
          Face x = with(0, 0, 0);
          is(x.of(0, 6), -5);
          x.learn(0, 1);
          x.worth(0, 0);
          is(x.of(0, 6), -5);
        });
  }

  private void had() {
    edge(TERMS, "SEEN told by hand: one, the SENTENCE that is its TIP now, or none (5 rows at most)")
        .broken("see", "seen.size() == 5", "seen.size() == 4")
        .broken("see", "seen.size() == 5", "seen.size() == 6")
        .by(() -> {
          Face x = with(0, 0, 1);
          for (int i = 1; i <= 5; i++) is(x.see(0, i < 5 ? 0 : -1), i);
          is(x.see(0, 0), -4);
          is(x.of(0, 7), 0);
        });
    edge(TERMS, "how many sets (0 .. 4095) there are", "nothing is SEEN of it")
        .broken("of", "for (int set = 0; set < 4096", "for (int set = 0; set < 4095")
        .broken("of", "for (int set = 0;", "for (int set = 1;")
        .by(() -> {
          Face x = with(0, 0, 1);
          x.one(0, 0, 1);
          x.see(1, 5);
          is(x.of(0, 7), 4096);
          is(x.of(0, 8), 0);
        });
    edge(TERMS, "how many sets (0 .. 4095) there are", "the empty one alone, and all but that")
        .broken("of", "for (int set = 0;", "for (int set = 1;")
        .broken("isSeen", "row[1] == -1 ? tip != -5 : tip", "tip")
        .by(() -> {
          Face x = with(0, 0, 1);
          x.see(0, -1);
          is(x.of(0, 7), 1);
          is(x.of(0, 8), 0);
          x.see(-1, 0);
          x.see(0, 0);
          is(x.of(0, 7), 2048);
          is(x.of(0, 8), 1);
        });
    edge(TERMS, "how many sets (0 .. 4095) there are", "the full one counts").broken("of", "set < 4096", "set < 4095").by(() -> {
      Face x = with(0, 0, 0);
      worths(x);
      x.worth(11, 1);
      x.see(0, 11);
      is(x.of(0, 7), 2048);
      is(x.of(0, 8), 2048);
    });
    edge(TERMS, "how many sets (0 .. 4095) there are", "none by all twelve, or by an URGE of just 0")
        .broken("tipBySums", "most = 0", "most = -1")
        .broken("of", "set < 4096", "set < 4095")
        .by(() -> {
          Face x = with(3, 0, 1);
          worths(x, 12, 12, 12, 12, 12, 12, 12, 12, 12, 12, 12, 12);
          x.see(0, -1);
          is(x.of(0, 7), 2);
          is(x.of(0, 8), 0);
        });
    edge(TERMS, "how many sets (0 .. 4095) there are", "a LOVER's, up to each size")
        .broken("of", "sets.add(set)", "if (Integer.bitCount(set) < 3) sets.add(set)")
        .broken("of", "sets.add(set)", "if (Integer.bitCount(set) != 11) sets.add(set)")
        .by(() -> {
          int[] sets = {0, 0, 1, 12, 67, 232, 562, 1024, 1486, 1816, 1981, 2036, 2047, 2048};
          for (int worth = 0; worth <= 13; worth++) {
            Face x = with(3, 0, 0);
            worths(x, worth);
            x.see(0, 0);
            is(x.of(0, 7), sets[worth]);
            is(x.of(0, 8), sets[worth] > 0 ? 1 : -5);
          }
        });
    edge(TERMS, "all of SEEN that is of it is so; the least (-5: none)")
        .broken("of", "sets.isEmpty() ? -5", "sets.isEmpty() ? 0")
        .by(() -> {
          Face x = with(0, 0, 1);
          x.see(0, 0);
          x.see(0, 1);
          is(x.of(0, 7), 0);
          is(x.of(0, 8), -5);
        });
  }

  private void worthsAndCan() {
    edge(TERMS, "those numbers 0 .. 20, as bits", "all of them, nothing being SEEN")
        .broken("told", "n <= 20", "n <= 19")
        .broken("told", "n <= 20", "n <= 21")
        .by(() -> {
          is(fresh().told(50), 0x1FFFFF);
          is(fresh().told(61), 0x1FFFFF);
        });
    edge(TERMS, "those numbers 0 .. 20, as bits", "0 alone, and 20 alone")
        .broken("told", "for (int n = 0; n <= 20; n++)", "for (int n = 1; n <= 19; n++)")
        .by(() -> {
          Face x = with(0, 0, 0b1);
          x.see(0, -1);
          is(x.told(50), 1);
          x.learn(0, 0b11);
          worths(x, 0, 19);
          x.see(-1, 0);
          x.see(0, 0);
          is(x.told(50), 1 << 19 | 1 << 20);
          x.learn(0, 0b110);
          x.see(-1, 0);
          x.see(0, 2);
          is(x.told(52), 1 << 20);
        });
    edge(TERMS, "were that its WORTH, all of SEEN is so", "never").broken("told", "isSo &=", "isSo |=").by(() -> {
      Face x = with(0, 0, 0b1);
      x.one(0, 0, 0b1);
      x.see(0, 0);
      x.see(1, -1);
      is(x.told(50), 0);
      is(x.told(51), 0);
    });
    edge(TERMS, "how many numbers v (0 .. 9) there are", "0 alone, and 9 alone")
        .broken("can", "for (int v = 0; v <= 9; v++)", "for (int v = 1; v <= 9; v++)")
        .broken("can", "v <= 9", "v <= 8")
        .by(() -> {
          Face x = with(1, 4, 0b1);
          is(x.can(0, 0), 10);
          is(bridge(x, "press 10 v=0;hold 20 p=0"), 0);
          x.see(0, -1);
          is(x.can(0, 0), 10);
          is(bridge(x, "hold 10 v>0"), 1);
          x.see(-1, 0);
          x.see(0, 0);
          is(x.can(0, 0), 1);
          is(x.can(0, 1), 0);
          is(bridge(x, "hold 10 v<9"), 2);
          is(x.can(0, 0), 1);
          is(x.can(0, 1), 9);
        });
    edge(TERMS, "were that its v, all of SEEN that is of it is so; the least (-5: none)")
        .broken("can", "found.isEmpty() ? -5", "found.isEmpty() ? 0")
        .broken("can", "m.isSeen(person, m.tip(person))", "m.isSeen(person, m.tip(person)) && m.isSeen(1, m.tip(1))")
        .by(() -> {
          Face x = with(1, 4, 0b1);
          x.one(0, 0, 0);
          x.see(1, 5);
          is(x.can(0, 0), 10);
          is(x.can(0, 1), 0);
          is(x.can(1, 0), 0);
          is(x.can(1, 1), -5);
        });
  }

  private void oddsAre(Face x, long above, long below) {
    is(x.odds(0, 0), above);
    is(x.odds(0, 1), below);
  }

  private void odds() {
    edge(TERMS, "if one of the 12 SENTENCES, each alike likely")
        .broken("odds", "s < 12", "s < 11")
        .broken("odds", "int s = 0; s", "int s = 1; s")
        .by(() -> {
          Face x = with(0, 0, 0b10);
          worths(x, 20, 10, 0, 0, 0, 0, 0, 0, 0, 0, 0, 20);
          oddsAre(x, 1, 6);
        });
    edge(TERMS, "comes to those it HAS (or is one of them)")
        .broken("odds", "m.people.get(person).has |= 1 << s", "m.people.get(person).has ^= 1 << s")
        .by(() -> {
          Face x = with(0, 0, 4095);
          oddsAre(x, 0, 1);
          x.learn(0, 0b111);
          worths(x, 1, 2, 3);
          oddsAre(x, 0, 1);
        });
    edge(TERMS, "how likely its TIP is another one than now", "one that is lost is none")
        .broken("odds", "tip != -5 && then != -5 && then != tip", "tip != -5 && then != tip")
        .by(() -> {
          Face x = with(3, 0, 0b1);
          worths(x, 2);
          is(x.of(0, 5), 0);
          oddsAre(x, 0, 1);
        });
    edge(TERMS, "(or one, there having been none)").broken("odds", "isAnother || isOne", "isAnother").by(() -> {
      Face x = with(0, 0, 0);
      oddsAre(x, 1, 1);
      worths(x, 0, 1);
      oddsAre(x, 1, 12);
    });
    edge(TERMS, "a fraction in lowest terms. MEAN").broken("lowest", "above / a", "above").broken("lowest", "below / a", "below").by(() -> {
      Face x = with(0, 0, 1);
      worths(x, 5, 6);
      oddsAre(x, 1, 12);
      worths(x, 5, 6, 6, 6, 6, 6, 6, 6, 6);
      oddsAre(x, 2, 3);
      worths(x, 5);
      oddsAre(x, 0, 1);
    });
  }

  private void means() {
    edge(TERMS, "MEAN of n DAYS (0 .. 60)", "0 and 60").broken("mean", "n < 0", "n < 1").broken("mean", "n > 60", "n > 59").by(() -> {
      Face x = with(0, 0, 0b1);
      x.ford(0, true);
      x.pass(1);
      x.learn(0, 0b100);
      x.worth(2, 20);
      is(bridge(x, "hold 50 !d=0|p=1"), 0);
      is(x.mean(0, 0), 10);
      is(x.mean(60, 0), 15);
    });
    edge(TERMS, "by how many they are: a fraction in lowest terms")
        .broken("mean", "lowest(sum, all, part)", "(part == 0 ? sum : all)")
        .by(() -> {
          Face x = with(0, 0, 0b1111);
          x.ford(0, true);
          worths(x, 9, 8, 7, 6);
          is(x.mean(2, 0), 17);
          is(x.mean(2, 1), 2);
          is(x.mean(4, 0), 15);
          is(x.mean(4, 1), 2);
          x.pass(4);
          worths(x);
          is(x.mean(0, 0), 0);
          is(x.mean(0, 1), 1);
        });
    edge(TERMS, "(NO: there are none)").broken("mean", "all == 0 ? Long.MIN_VALUE", "all == 0 ? part").by(() -> {
      Face x = with(0, 0, 0b1);
      is(x.mean(0, 0), NO);
      is(x.mean(60, 1), NO);
    });
  }

  private void plans() {
    edge(TERMS, "what goes (0 a DAY, 1 one is BEYOND, 2 one is not")
        .broken("ends", "if (row[0] == 0)", "if (row[0] == 1)")
        .broken("ends", ".beyond = true", ".beyond = false")
        .broken("ends", ".beyond = false", ".beyond = true")
        .by(() -> {
          Face x = with(0, 0, 0b1);
          x.plan(1, 0);
          is(x.ends(0), 0);
          x.plan(0, 0);
          is(x.ends(0), 1);
          x.plan(2, 0);
          x.plan(0, 0);
          is(x.ends(1), 1);
        });
    edge(TERMS, "3 SENTENCE n, if it is TAKEN, is HEARD, and TAKEN no more", "it is not TAKEN")
        .broken("ends", "row[0] == 3 && has(m.takenSet, row[1])", "row[0] == 3")
        .by(() -> {
          Face x = with(0, 0, 0b1);
          x.plan(3, 0);
          x.plan(3, 11);
          is(x.ends(0), 0);
        });
    edge(TERMS, "3 SENTENCE n, if it is TAKEN, is HEARD, and TAKEN no more", "it is")
        .broken("ends", "m.hear(row[1])", "m.heardSet |= 1 << row[1]")
        .broken("ends", "m.hear(row[1])", "m.takenSet -= 1 << row[1]")
        .by(() -> {
          Face x = with(0, 0, 1 << 11);
          x.one(0, 0, 1 << 10);
          goTo(x, 1);
          is(bridge(x, "free 1"), 0);
          is(x.told(2), 3 << 10);
          x.plan(3, 10);
          is(x.ends(0), 1 << 10);
          x.plan(0, 0);
          is(x.ends(0), 3 << 10);
        });
    edge(TERMS, "10 rows at most")
        .broken("plan", "planned.size() == 10", "planned.size() == 9")
        .broken("plan", "planned.size() == 10", "planned.size() == 11")
        .by(() -> {
          Face x = with(0, 0, 0);
          for (int i = 1; i <= 10; i++) is(x.plan(0, 0), i);
          is(x.plan(0, 0), -4);
          is(x.ends(1), 10);
        });
    edge(TERMS, "ENDS: what is HEARD (bits); BACK of all, together", "no PLAN, nobody")
        .broken("ends", "int back = 0", "int back = people.isEmpty() ? 1 : 0")
        .broken("ends", "what == 0 ? m.heardSet", "what == 0 && people.isEmpty() ? -5 : what == 0 ? m.heardSet")
        .by(() -> {
          is(fresh().ends(0), 0);
          is(fresh().ends(1), 0);
        });
    edge(TERMS, "ENDS: what is HEARD (bits); BACK of all, together", "six, turned back")
        .broken("ends", "back += p.back", "back = p.back")
        .by(() -> {
          Face x = fresh();
          for (int p = 0; p < 6; p++) x.one(p, 0, 0);
          x.pass(7);
          x.plan(0, 0);
          is(x.ends(1), 48);
        });
  }

  private void books() {
    edge(TERMS, "A BOOK told by hand: SENTENCES, WORTH (0 .. 20; 8 at most)")
        .broken("book", "booked.size() == 8", "booked.size() == 7")
        .broken("book", "booked.size() == 8", "booked.size() == 9")
        .broken("book", "worth < 0", "worth < 1")
        .broken("book", "worth > 20", "worth > 19")
        .by(() -> {
          Face x = fresh();
          for (int i = 1; i <= 8; i++) is(x.book(i, i % 2 * 20), i);
          is(x.book(9, 10), -4);
        });
    edge(TERMS, "the number of the first of these rows by which it is otherwise now", "the first and the last")
        .broken("looked", "return booked.indexOf(row)", "return booked.indexOf(row) + 1")
        .broken("looked", "for (int[] row : booked)", "for (int[] row : booked.subList(0, Math.min(7, booked.size())))")
        .by(() -> {
          Face x = fresh();
          for (int i = 0; i < 8; i++) x.book(i + 4, 10);
          is(x.looked(), -5);
          x.worth(11, 11);
          is(x.looked(), 7);
          x.worth(4, 9);
          is(x.looked(), 0);
        });
    edge(TERMS, "by which it is otherwise now (-5: none)").broken("looked", "return -5", "return -1").by(() -> {
      Face x = fresh();
      is(x.looked(), -5);
      x.book(0, 10);
      is(x.looked(), -5);
    });
  }

  private void wrapping() {
    edge(TERMS, "ACTS of one with x (wrapping)", "x + i")
        .broken("run", "case 10: return x + i", "case 10: return (int) Math.min(Integer.MAX_VALUE, (long) x + i)")
        .by(() -> {
          Face x = with(0, 0, 0);
          x.one(0, 0, 0);
          is(x.act(1, 0, HIGH), LOW);
        });
    edge(TERMS, "ACTS of one with x (wrapping)", "mutters(x) - v")
        .broken("run", "run(i, one.kind, 0, x) - one.v", "(int) Math.max(Integer.MIN_VALUE, (long) run(i, one.kind, 0, x) - one.v)")
        .by(() -> is(with(0, 9, 0).act(0, 1, LOW), HIGH - 8));
    edge(TERMS, "ACTS of one with x (wrapping)", "says(x) * 2")
        .broken("run", "run(i, one.kind, 1, x) * 2", "(int) Math.max(Integer.MIN_VALUE, Math.min(Integer.MAX_VALUE, run(i, one.kind, 1, x) * 2L))")
        .by(() -> {
          is(with(0, 0, 0).act(0, 2, HIGH), -2);
          is(with(0, 0, 0).act(0, 2, LOW), 0);
        });
    edge(TERMS, "ACTS of one with x (wrapping)", "x * 3")
        .broken("run", "run(i, 0, 0, x * 3)", "run(i, 0, 0, (int) Math.max(Integer.MIN_VALUE, Math.min(Integer.MAX_VALUE, x * 3L)))")
        .by(() -> {
          is(with(2, 0, 0).act(0, 0, HIGH), HIGH - 2);
          is(with(2, 0, 0).act(0, 0, LOW), LOW);
        });
    edge(TERMS, "ACTS of one with x (wrapping)", "-super.mutters(x)")
        .broken("run", "return -run(i, 1, 0, x)", "return (int) Math.min(Integer.MAX_VALUE, -(long) run(i, 1, 0, x))")
        .by(() -> is(with(4, 0, 0).act(0, 0, LOW), LOW));
    edge(TERMS, "ACTS of one with x (wrapping)", "x + 1")
        .broken("run", "run(i, 1, 1, x + 1)", "run(i, 1, 1, x == Integer.MAX_VALUE ? x : x + 1)")
        .by(() -> is(with(4, 0, 0).act(0, 1, HIGH), LOW ^ 6));
    edge(TERMS, "ACTS of one with x (wrapping)", "x - i")
        .broken("run", "run(i, 2, 2, x - i)", "run(i, 2, 2, (int) Math.max(Integer.MIN_VALUE, (long) x - i))")
        .by(() -> {
          Face x = with(5, 0, 0);
          x.one(5, 0, 0);
          is(x.act(1, 2, LOW), (HIGH * 3 + 1) * 2);
        });
    edge(TERMS, "ACTS of one with x (wrapping)", "super.tells(x) + says(1)")
        .broken("run", "return a + run(i, one.kind, 1, 1)", "return (int) Math.max(Integer.MIN_VALUE, (long) a + run(i, one.kind, 1, 1))")
        .by(() -> is(with(3, 9, 0).act(0, 2, (LOW + 18) / 2), LOW + 18 - 18 - 8));
    edge(TERMS, "ACTS of one with x (wrapping)", "super.says(x) + super.mutters(2)")
        .broken("run", "return a + run(i, 3, 0, 2)", "return (int) Math.min(Integer.MAX_VALUE, (long) a + run(i, 3, 0, 2))")
        .by(() -> is(with(6, 0, 0).act(0, 1, HIGH), LOW + 1));
  }

  private void bodies() {
    edge(TERMS, "the body of its KIND, or, if that has none, of the next KIND above that has one")
        .broken("body", "kind = ABOVE[kind]", "kind = 0")
        .by(() -> {
          Face x = with(4, 0, 0);
          x.one(5, 0, 0);
          x.one(6, 0, 0);
          is(x.act(0, 2, 0), (-1 ^ 6) * 2);
          is(x.trace(0), 12);
          is(x.act(1, 0, 1), 4);
          is(x.trace(0), 30);
          is(x.act(1, 1, 1), 4);
          is(x.trace(0), 11);
          is(x.trace(1), 30);
          x.act(1, 2, 1);
          is(x.trace(0), 60);
          x.act(2, 2, 1);
          is(x.trace(0), 40);
          x.act(0, 0, 1);
          is(x.trace(0), 50);
          x.act(0, 1, 1);
          is(x.trace(0), 51);
        });
    edge(TERMS, "super.mutters(..): so from the KIND above the body's on")
        .broken("run", "return -run(i, 1, 0, x)", "return -run(i, 2, 0, x)")
        .broken("run", "case 51: return run(i, 1, 1,", "case 51: return run(i, 0, 1,")
        .by(() -> {
          Face x = with(4, 0, 0);
          is(x.act(0, 0, 5), -5);
          is(x.trace(1), 10);
          x.act(0, 1, 5);
          is(x.trace(1), 20);
          is(x.trace(2), 11);
        });
    edge(TERMS, "all that stands in a body is done from the left on")
        .broken("run", "int a = run(i, 3, 1, x); return a + run(i, 3, 0, 2);", "int b = run(i, 3, 0, 2); return run(i, 3, 1, x) + b;")
        .by(() -> {
          Face x = with(6, 0, 0);
          x.act(0, 1, 5);
          int[] due = {70, 11, 71, 10, 10};
          for (int i = 0; i < 5; i++) is(x.trace(i), due[i]);
        });
    edge(TERMS, "the first 20 are kept").broken("trace", "i >= 20", "i >= 11").by(() -> {
      Face x = with(6, 0, 0);
      x.act(0, 2, 5);
      int[] due = {40, 12, 70, 11, 71, 10, 10, 70, 11, 71, 10, 10, -1};
      for (int i = 0; i < due.length; i++) is(x.trace(i), due[i]);
      is(x.count(6), 12);
    });
  }
}
