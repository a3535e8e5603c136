/** Boundary cases of the Terms, part 1: THE TEXT, CLAUSES, E, the FAULT. */
final class TextEdges extends Edges {
  private static final String FREES = "free 1;free 1;free 1;free 1;free 1;free 1;free 1;free 1;free 1;";

  TextEdges() {
    clauses();
    parts();
    expressions();
    tests();
    letters();
    within();
    places();
    bridges();
  }

  /** The second part begins with the FAULT. */
  private void fault(String ahead, String from) {
    is(bridge(fresh(), ahead + from), -10 - ahead.length());
  }

  private void whole(String text) {
    is(bridge(fresh(), text), 0);
  }

  private static String times(String t, int n) {
    return t.repeat(n);
  }

  private void clauses() {
    edge(TERMS, "THE TEXT (bytes, 100 at most)")
        .broken("feed", "text.length() == 100", "text.length() == 99")
        .broken("feed", "text.length() == 100", "text.length() == 101")
        .by(() -> {
          Face x = fresh();
          feed(x, "hold 11 p=11" + times("|p=1", 20) + ";free 12");
          is(x.count(5), 100);
          is(x.feed('3'), -4);
          is(x.bridge(), 0);
          is(x.told(1), 12);
        });
    edge(TERMS, "CLAUSES, 1 to 10", "none")
        .broken("fault", "boolean isWhole = ", "boolean isWhole = t.isEmpty() || ")
        .by(() -> fault("", ""));
    edge(TERMS, "CLAUSES, 1 to 10", "one").broken("fault", "return isWhole ?", "return isWhole && clause > 1 ?").by(() -> {
      whole("free 1");
      whole("press 1 p=1");
    });
    edge(TERMS, "CLAUSES, 1 to 10", "ten").broken("fault", "c != ';' || clause == 10", "c != ';' || clause == 9").by(() -> {
      whole(FREES + "free 2");
      whole(FREES + "hold 1 p=1");
    });
    edge(TERMS, "CLAUSES, 1 to 10", "all ten count").broken("sum", "bridges.get(held).split(\";\")", "bridges.get(held).split(\";\", 9)").by(() -> {
      Face x = with(0, 0, 0);
      is(bridge(x, "press 1 p=0;press 2 p=0;hold 3 p=0;free 1;free 2;free 3;free 4;free 5;free 6;press 8 p=0"), 0);
      is(x.urge(0, 0), 10 + 1 + 2 - 3 + 8);
      is(x.told(1), 6);
      is(bridge(x, "free 1;free 2;free 3;free 4;free 5;free 6;free 7;free 8;hold 9 p=0;free 9"), 1);
      is(x.urge(0, 0), 1);
      is(x.told(1), 9);
    });
    edge(TERMS, "CLAUSES, 1 to 10", "eleven")
        .broken("fault", "c != ';' || clause == 10", "c != ';' || clause == 11")
        .broken("fault", "!open.isEmpty() || clause == 10", "!open.isEmpty() || clause == 11")
        .by(() -> {
          fault(FREES + "free 1", ";free 1");
          fault(FREES + "free 1", ";");
          fault(FREES + "press 1 p=1", ";free 1");
        });
    edge(TERMS, "with ; between")
        .broken("fault", "c != ';' || clause == 10", "c != ';' && c != ',' || clause == 10")
        .broken("fault", "boolean isWhole = ", "boolean isWhole = state == 'W' && word.isEmpty() && clause > 1 || ")
        .broken("fault", "word += c;", "if (c == ';') continue; word += c;")
        .by(() -> {
          fault("", ";free 1");
          fault("free 1;", "");
          fault("free 1;", ";free 1");
          fault("free 1", ",free 1");
          fault("press 1 p=1", " free 1");
          fault("press 1 p=1", "free 1");
          fault("free 1;", " free 1");
        });
  }

  private void parts() {
    edge(TERMS, "press n E; hold n E; free n", "other words")
        .broken("fault", "!\"press \".startsWith(word)", "!\"press \".startsWith(word) && !\"prose \".startsWith(word)")
        .broken("fault", "word += c;", "word += Character.toLowerCase(c);")
        .by(() -> {
          fault("pr", "ose 1 p=1");
          fault("fre", "t 1");
          fault("", "x");
          fault("", "Free 1");
          fault("h", "eld 1 p=1");
          fault("press", "es 1 p=1");
          fault("hold", ";");
          fault("", "1");
        });
    edge(TERMS, "press n E; hold n E; free n", "a part too few")
        .broken("fault", "state == 'N' && word.equals(\"free \") && digits > 0", "state == 'N' && digits > 0")
        .by(() -> {
          fault("press 1", "");
          fault("hold 1", ";free 1");
          fault("hold 1 ", "");
          fault("press 1 ", ";free 1");
        });
    edge(TERMS, "press n E; hold n E; free n", "a part too many")
        .broken("fault", "word.equals(\"free \")", "word.equals(\"free \") && c != ' '")
        .by(() -> {
          fault("free 1", " p=1");
          fault("press 1 p=1", " p=1");
        });
    edge(TERMS, "one blank ahead of each part behind the word", "no blank")
        .broken("fault", "word += c;", "if (word.equals(\"free\") && digit) { word = \"free \"; state = 'N'; digits = 1; continue; } word += c;")
        .broken("fault", "if (c != ' ') return i;", "if (c != ' ') { if (c != 'p') return i; i--; }")
        .by(() -> {
          fault("free", "1");
          fault("press", "1 p=1");
          fault("press 1", "p=1");
        });
    edge(TERMS, "one blank ahead of each part behind the word", "two blanks")
        .broken("fault", "if (digit && digits < 2)", "if (c == ' ' && digits == 0) continue; if (digit && digits < 2)")
        .broken("fault", "if (c == '(' || c == '!') {", "if (c == ' ') continue; if (c == '(' || c == '!') {")
        .by(() -> {
          fault("free ", " 1");
          fault("hold ", " 1 p=1");
          fault("hold 1 ", " p=1");
        });
    edge(TERMS, "one blank ahead of each part behind the word", "a blank elsewhere")
        .broken("fault", "if (c != ';' || clause == 10)", "if (c == ' ' && i == t.length() - 1) return -1; if (c != ';' || clause == 10)")
        .broken("fault", "if (c == '&' || c == '|') {", "if (c == ' ') continue; if (c == '&' || c == '|') {")
        .by(() -> {
          fault("", " free 1");
          fault("free 1", " ");
          fault("hold 1 p=1", " ");
          fault("hold 1 p", " =1");
          fault("hold 1 p=", " 1");
          fault("hold 1 p=1", " &p=1");
        });
    edge(TERMS, "n 1 or 2 digits", "none").broken("fault", "if (digits == 0) return i;", "").by(() -> {
      fault("press ", "p=1");
      fault("free ", ";free 1");
      fault("free ", "");
      fault("hold ", "-1 p=1");
    });
    edge(TERMS, "n 1 or 2 digits", "one or two")
        .broken("fault", "if (digit && digits < 2)", "if (digit && digits < 1)")
        .broken("free", "Integer.parseInt(clause.substring(5))", "clause.charAt(5) - '0'")
        .by(() -> {
          for (int n : new int[] {0, 1, 9, 10, 99}) {
            Face x = fresh();
            is(bridge(x, "free " + n), 0);
            is(x.told(1), n);
          }
          Face x = fresh();
          is(bridge(x, "free 00"), 0);
          is(x.told(1), 0);
          is(bridge(x, "free 07"), 1);
          is(x.told(1), 7);
        });
    edge(TERMS, "n 1 or 2 digits", "three").broken("fault", "if (digit && digits < 2)", "if (digit && digits < 3)").by(() -> {
      fault("free 12", "3");
      fault("press 00", "0 p=1");
    });
  }

  /** Whether an E holds for person 0, SENTENCE 0, where p=0 holds and p=1 does not. */
  private void holds(String e, int due) {
    Face x = with(0, 0, 0);
    is(bridge(x, "press 1 " + e), 0);
    is(x.urge(0, 0) - 10, due);
  }

  private void expressions() {
    edge(TERMS, "E: T or T|E. T: F or F&T", "a part is empty")
        .broken("fault", "\"pkvswd\".indexOf(c)", "\"pkvswd|&\".indexOf(c)")
        .broken("fault", "state == 'A' && open.isEmpty()", "state == 'A' && open.isEmpty() || state == 'E'")
        .by(() -> {
          fault("press 1 ", "|p=1");
          fault("press 1 ", "&p=1");
          fault("press 1 p=1|", "");
          fault("press 1 p=1&", "");
          fault("press 1 p=1|", "|p=1");
          fault("press 1 p=1&", "&p=1");
          fault("press 1 p=1&", "|p=1");
          fault("press 1 p=1|", ";free 1");
        });
    edge(TERMS, "E: T or T|E. T: F or F&T", "which comes first")
        .broken("holds", "if (either.size() > 1)", "if (split(e, '&').size() == 1 && either.size() > 1)")
        .broken("holds", "if (!holds(t, person, s)) return false;\n      return true;", "if (holds(t, person, s)) return true;\n      return false;")
        .by(() -> {
          holds("p=0|p=1&p=1", 1);
          holds("p=1&p=1|p=0", 1);
          holds("(p=0|p=1)&p=1", 0);
          holds("p=1|p=1|p=0", 1);
          holds("p=0&p=0&p=1", 0);
        });
    edge(TERMS, "E: T or T|E. T: F or F&T", "whether all, one or none of two hold")
        .broken("holds", "if (!holds(t, person, s)) return false;", "if (!holds(t, person, s)) return t != both.get(0);")
        .broken("holds", "if (holds(t, person, s)) return true;", "if (holds(t, person, s)) return t != either.get(0);")
        .by(() -> {
          int[][] due = {{0, 0}, {0, 1}, {0, 1}, {1, 1}};
          for (int i = 0; i < 4; i++) {
            String one = i / 2 == 1 ? "p=0" : "p=1", other = i % 2 == 1 ? "p=0" : "p=1";
            holds(one + "&" + other, due[i][0]);
            holds(one + "|" + other, due[i][1]);
            holds("p=0&(" + one + "|" + other + ")", due[i][1]);
            holds("p=1|(" + one + "&" + other + ")", due[i][0]);
            holds("p=1|p=0&(p=1|p=0&(p=1|p=0&(" + one + "&" + other + ")))", due[i][0]);
          }
        });
    edge(TERMS, "F: !F, (E), or a TEST", "open at the end")
        .broken("fault", "withoutNots(open).isEmpty()\n", "true\n")
        .broken("fault", "state == 'A' && open.isEmpty()", "state == 'A'")
        .by(() -> {
          fault("press 1 (", "");
          fault("press 1 (p=1", "");
          fault("press 1 ((p=1)", "");
          fault("press 1 !", "");
          fault("press 1 !(p=1", "");
        });
    edge(TERMS, "F: !F, (E), or a TEST", "open at a ;")
        .broken("fault", "!open.isEmpty() || clause == 10", "clause == 10")
        .by(() -> fault("press 1 (p=1", ";free 1"));
    edge(TERMS, "F: !F, (E), or a TEST", "empty, or closed too often")
        .broken("fault", "if (open.isEmpty()) return i;", "if (open.isEmpty()) continue;")
        .broken("fault", "} else if (\"pkvswd\"", "} else if (c == ')' && !open.isEmpty()) { open = open.substring(1); state = 'A'; } else if (\"pkvswd\"")
        .by(() -> {
          fault("press 1 ", ")");
          fault("press 1 (", ")");
          fault("press 1 p=1", ")");
          fault("press 1 (p=1)", ")");
          fault("press 1 !", ")");
          fault("press 1 p=1", "(p=1)");
          fault("press 1 p=1", "!p=1");
        });
    edge(TERMS, "F: !F, (E), or a TEST", "! takes one F alone")
        .broken("holds", "List<String> either", "if (e.startsWith(\"!\")) return !holds(e.substring(1), person, s); List<String> either")
        .by(() -> {
          holds("!p=1&p=1", 0);
          holds("!p=0|p=0", 1);
          holds("!(p=1&p=1)", 1);
          holds("!(p=0|p=0)", 0);
          holds("!!p=0", 1);
          holds("!!!p=0", 0);
        });
  }

  private void tests() {
    edge(TERMS, "a TEST: a letter, < or = or >", "another letter or sign")
        .broken("fault", "\"pkvswd\"", "\"pkvswdq\"")
        .broken("fault", "c != '<' && c != '='", "c != '<' && c != '!' && c != '='")
        .broken("fault", "if (state == 'C') {", "if (state == 'D' && digits == 0 && c == '=') continue; if (state == 'C') {")
        .by(() -> {
          fault("press 1 ", "q=1");
          fault("press 1 ", "P=1");
          fault("press 1 ", "1=p");
          fault("press 1 p", "!1");
          fault("press 1 p", "1");
          fault("press 1 p", "k=1");
          fault("press 1 p<", "=1");
          fault("press 1 p=", "=1");
          fault("press 1 p", "");
        });
    edge(TERMS, "a number (1 or 2 digits)", "none")
        .broken("fault", "if (digits == 0) return i;\n        state = 'A';", "state = 'A';")
        .broken("fault", "state == 'D' && digits > 0", "state == 'D'")
        .by(() -> {
          fault("press 1 p=", "");
          fault("press 1 p=", "p");
          fault("press 1 (p=", ")");
          fault("press 1 p=", ";free 1");
          fault("press 1 p=", "-1");
        });
    edge(TERMS, "a number (1 or 2 digits)", "one or two")
        .broken("holds", "Integer.parseInt(e.substring(2))", "e.charAt(2) - '0'")
        .broken("holds", "Integer.parseInt(e.substring(2))", "Integer.parseInt(e.substring(2)) % 10")
        .by(() -> {
          holds("w=10", 1);
          holds("w=1", 0);
          holds("w<99", 1);
          holds("p=00", 1);
          holds("s<01", 1);
          holds("w=0", 0);
        });
    edge(TERMS, "a number (1 or 2 digits)", "three")
        .broken("fault", "if (digits == 0) return i;\n        state = 'A';", "if (digit) continue; if (digits == 0) return i; state = 'A';")
        .by(() -> {
          fault("press 1 p=12", "3");
          fault("press 1 (p=00", "0)");
        });
    edge(TERMS, "< or = or >", "at the number itself and beside it")
        .broken("holds", "left < n", "left <= n")
        .broken("holds", "left > n", "left >= n")
        .broken("holds", "left == n", "left >= n")
        .by(() -> {
          holds("w<9", 0);
          holds("w<10", 0);
          holds("w<11", 1);
          holds("w=9", 0);
          holds("w=10", 1);
          holds("w=11", 0);
          holds("w>9", 1);
          holds("w>10", 0);
          holds("w>11", 0);
        });
  }

  /** Person 1 is a TOLD one of v 9; SENTENCE 11 is of WORTH 20. */
  private void letter(int day, String e, int due) {
    Face x = with(0, 0, 0);
    x.one(6, 9, 0);
    x.worth(11, 20);
    goTo(x, day);
    is(bridge(x, "press 1 " + e), 0);
    is(x.urge(1, 11), 20 + due);
  }

  private void letters() {
    edge(TERMS, "p the number of the one, k its KIND, v its v, s the number of the other, w its WORTH, d DAY modulo 10", "all at their least")
        .broken("holds", "left < n", "left <= n")
        .broken("holds", "left > n", "left >= n")
        .by(() -> {
          for (char c : "pkvswd".toCharArray()) {
            int[] due = {0, 1, 0, 1, 0, 0};
            String[] tests = {"<0", "=0", ">0", "<1", "=1", ">99"};
            Face x = with(0, 0, 0);
            x.worth(0, 0);
            for (int i = 0; i < 6; i++) {
              is(bridge(x, "press 1 " + c + tests[i]), i);
              is(x.urge(0, 0), due[i]);
            }
          }
        });
    edge(TERMS, "p the number of the one, k its KIND, v its v, s the number of the other, w its WORTH, d DAY modulo 10", "all at their most")
        .broken("holds", "left < n", "left <= n")
        .broken("holds", "left > n", "left >= n")
        .broken("holds", "int left;", "int left; s = Math.min(s, 10);")
        .by(() -> {
          int[] most = {5, 6, 9, 11, 20, 9};
          for (int i = 0; i < 6; i++) {
            Face x = fresh();
            for (int p = 0; p < 6; p++) x.one(6, 9, 0);
            x.worth(11, 20);
            x.pass(9);
            int[] due = {0, 1, 0, 1, 1, 1};
            String[] tests = {"<" + most[i], "=" + most[i], ">" + most[i], ">" + (most[i] - 1), "<" + (most[i] + 1), "<99"};
            for (int k = 0; k < 6; k++) {
              is(bridge(x, "press 1 " + "pkvswd".charAt(i) + tests[k]), k);
              is(x.urge(5, 11), 20 + due[k]);
            }
          }
        });
    edge(TERMS, "of one and a SENTENCE p the number of the one, k its KIND, v its v, s the number of the other, w its WORTH, d DAY modulo 10", "0 where the others are not")
        .broken("holds", "left = one.v", "left = Math.max(one.v, person)")
        .broken("holds", "left = day % 10", "left = day % 10 + s")
        .by(() -> {
          for (int i = 0; i < 6; i++) {
            Face x = fresh();
            for (int p = 0; p < 2; p++) x.one(i == 1 ? 0 : 6, i == 2 ? 0 : 9, 0);
            x.pass(i == 5 ? 0 : 9);
            int p = i == 0 ? 0 : 1, s = i == 3 ? 0 : 11;
            int worth = i == 4 ? 0 : 20;
            x.worth(s, worth);
            String letter = "" + "pkvswd".charAt(i);
            is(bridge(x, "press 1 " + letter + "<1"), 0);
            is(x.urge(p, s), worth + 1);
            is(bridge(x, "press 1 " + letter + ">0"), 1);
            is(x.urge(p, s), worth);
          }
        });
    edge(TERMS, "p the number of the one").broken("holds", "left = person", "left = person + 1").by(() -> letter(0, "p=1", 1));
    edge(TERMS, "k its KIND").broken("holds", "left = one.kind", "left = Math.min(5, one.kind)").by(() -> letter(0, "k=6", 1));
    edge(TERMS, "v its v").broken("holds", "left = one.v", "left = Math.min(8, one.v)").by(() -> letter(0, "v=9", 1));
    edge(TERMS, "s the number of the other").broken("holds", "left = s;", "left = s % 10;").by(() -> letter(0, "s=11", 1));
    edge(TERMS, "w its WORTH").broken("holds", "left = worths[s]", "left = worths[s] % 20").by(() -> letter(0, "w=20", 1));
    edge(TERMS, "d DAY modulo 10")
        .broken("holds", "left = day % 10", "left = Math.min(day, 9)")
        .broken("holds", "left = day % 10", "left = day % 9")
        .by(() -> {
          letter(0, "d=0", 1);
          letter(9, "d=9", 1);
          letter(10, "d=0", 1);
          letter(10, "d=10", 0);
          letter(9999, "d=9", 1);
        });
  }

  private void within() {
    edge(TERMS, "A ( or ! within 4 others is none", "within 3").broken("fault", "open.length() == 4", "open.length() == 3").by(() -> {
      whole("press 1 ((((p=1))))");
      whole("press 1 !!!!p=1");
      whole("press 1 !(!(p=1))");
      whole("press 1 (!(!p=1))");
      whole("press 1 p=1|p=1&p=1|((((p=1))))");
    });
    edge(TERMS, "A ( or ! within 4 others is none", "within 4").broken("fault", "open.length() == 4", "open.length() == 5").by(() -> {
      fault("press 1 ((((", "(p=1)))))");
      fault("press 1 !!!!", "!p=1");
      fault("press 1 ((((", "!p=1))))");
      fault("press 1 !!!!", "(p=1)");
      fault("press 1 (!(!", "(p=1)))");
      fault("hold 1 p=1|((((p=1&", "(p=1)))))");
    });
    edge(TERMS, "A ( or ! within 4 others is none", "beside 4")
        .broken("fault", "open = withoutNots(open);\n      }", "}")
        .broken("fault", "open = withoutNots(open.substring(0, open.length() - 1));", "open = open.substring(0, open.length() - 1);")
        .by(() -> {
          whole("press 1 !!!!p=1&!!!!p=1");
          whole("press 1 ((((p=1))))|((((p=1))))");
          whole("press 1 !!(!p=1&!p=1)|!!!!p=1");
          whole("press 1 (((!p=1|!p=1)))&!(((p=1)))");
          whole("press 1 !!!!p=1;hold 1 !!!!p=1");
        });
  }

  private void places() {
    edge(TERMS, "the place of the first byte with which none begins so", "the first and the last byte")
        .broken("fault", "startsWith(word)) return i;", "startsWith(word)) return Math.max(1, Math.min(i, 98));")
        .by(() -> {
          fault("", "x" + times("y", 99));
          fault("press 1 p=1" + times("|p=1", 21) + ";fre", "x");
          fault("", "" + (char) 0);
          fault("", "" + (char) 127);
        });
    edge(TERMS, "the place of the first byte with which none begins so", "more are behind it")
        .broken("fault", "int fault(String t) {", "int fault(String t) { if (t.endsWith(\"?\")) return t.length() - 1;")
        .by(() -> fault("free 1", "?;?"));
    edge(TERMS, "(the end of THE TEXT, if it ends too early)").broken("fault", "? -1 : t.length()", "? -1 : t.length() - 1").by(() -> {
      for (String t : new String[] {"f", "free", "free ", "free 1;", "hold 1", "hold 1 "}) fault(t, "");
      for (String e : new String[] {"p", "p=", "(", "(p=1", "!", "p=1|", "p=1&"}) fault("hold 1 " + e, "");
      fault("press 1 p=1" + times("|p=1", 22) + "|", "");
    });
  }

  private void bridges() {
    edge(TERMS, "The newest BRIDGE holds (6 at most)")
        .broken("bridge", "held = bridges.size() - 1", "held = Math.min(bridges.size() - 1, 4)")
        .broken("bridge", "bridges.size() == 6", "bridges.size() == 5")
        .by(() -> {
          Face x = fresh();
          for (int i = 0; i < 6; i++) {
            is(bridge(x, "free " + (i + 1)), i);
            is(x.told(1), i + 1);
          }
          is(bridge(x, "free 9"), -4);
          is(x.told(1), 6);
        });
  }
}
