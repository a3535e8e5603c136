import java.util.Random;

/** Texts of BRIDGES by chance (seeded, so the same in every run), whole or spoilt. */
final class Texts {
  private Texts() {}

  static String number(Random r, int most) {
    int n = r.nextInt(most + 1);
    return n < 10 && r.nextInt(6) == 0 ? "0" + n : "" + n;
  }

  private static String test(Random r) {
    int letter = r.nextInt(6);
    int[] most = {6, 7, 10, 12, 21, 10};
    return "" + "pkvswd".charAt(letter) + "<=>".charAt(r.nextInt(3)) + number(r, most[letter]);
  }

  private static String factor(Random r, int within) {
    int die = r.nextInt(10);
    if (within < 4 && die < 2) return "!" + factor(r, within + 1);
    if (within < 4 && die < 4) return "(" + either(r, within + 1) + ")";
    return test(r);
  }

  private static String both(Random r, int within) {
    String t = factor(r, within);
    return r.nextInt(4) == 0 ? t + "&" + both(r, within) : t;
  }

  private static String either(Random r, int within) {
    String t = both(r, within);
    return r.nextInt(4) == 0 ? t + "|" + either(r, within) : t;
  }

  private static String clause(Random r) {
    int die = r.nextInt(7);
    if (die == 0) return "free " + number(r, r.nextBoolean() ? 3 : 99);
    String word = die < 4 ? "press " : "hold ";
    return word + number(r, r.nextInt(5) == 0 ? 99 : 15) + " " + either(r, 0);
  }

  static String whole(Random r) {
    while (true) {
      String t = clause(r);
      int more = r.nextInt(r.nextInt(4) == 0 ? 11 : 4);
      for (int i = 0; i < more; i++) t += ";" + clause(r);
      if (t.length() <= 100) return t;
    }
  }

  /** As a whole one, but cut, or with signs put in, taken out or changed. */
  static String spoilt(Random r) {
    StringBuilder t = new StringBuilder(whole(r));
    String signs = "pkvswd<=>!&|();  0123456789presholdfreex" + (char) 0 + (char) 127;
    int times = 1 + r.nextInt(2);
    for (int i = 0; i < times; i++) {
      int at = r.nextInt(t.length() + 1);
      char c = signs.charAt(r.nextInt(signs.length()));
      switch (r.nextInt(5)) {
        case 0: t.setLength(at); break;
        case 1: t.insert(at, c); break;
        case 2: if (at < t.length()) t.deleteCharAt(at); break;
        case 3: t.insert(at, t.charAt(Math.max(0, Math.min(at, t.length() - 1)))); break;
        default: if (at < t.length()) t.setCharAt(at, c); break;
      }
      if (t.length() == 0) t.append(c);
    }
    if (t.length() > 100) t.setLength(100);
    return t.toString();
  }
}
