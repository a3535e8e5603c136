import java.nio.file.Files;
import java.nio.file.Path;
import java.util.ArrayList;
import java.util.LinkedHashMap;
import java.util.List;
import java.util.Map;
import java.util.regex.Matcher;
import java.util.regex.Pattern;
import java.util.stream.Stream;

/** README.md tells answers as the class answers them, refusals in the document's words, and every test. */
public final class ReadmeTest {
  private static final Check is = new Check();
  private static final Pattern SHOWN = Pattern.compile("(?:int \\w+ = )?(x\\.\\w+\\(.*\\));\\s+// (-?\\d+|NO): .*");
  private static final Pattern REFUSALS = Pattern.compile("\\b(NONE|BAD|STATE|FULL|NOTHING|CAST|PLACE|SIZE|NO)\\b|-10001|-10 less|no such one");

  public static void main(String[] args) throws Exception {
    String page = Files.readString(Path.of("README.md"));
    String document = Files.readString(Path.of("../shared/DOC.md"));
    shown(page);
    answers(page, flat(document));
    calls(page, document);
    quotes(page, flat(document));
    tests(page);
    is.end();
  }

  private static String flat(String text) {
    return text.replaceAll("\\s+", " ");
  }

  private static List<String> blocks(String page, String language) {
    List<String> found = new ArrayList<>();
    Matcher m = Pattern.compile("(?s)```" + language + "\n(.*?)```").matcher(page);
    while (m.find()) found.add(m.group(1));
    return found;
  }

  /** Each program that is shown is run, and each answer that stands behind a call is looked at. */
  private static void shown(String page) throws Exception {
    List<String> programs = blocks(page, "java");
    is.due("a program of calls and one of refusals", programs.size(), 2);
    for (int i = 0; i < programs.size(); i++) {
      List<String> calls = new ArrayList<>();
      List<Long> due = new ArrayList<>();
      StringBuilder body = new StringBuilder();
      for (String line : programs.get(i).split("\n")) {
        Matcher m = SHOWN.matcher(line);
        is.due("'" + line + "' is a call with its answer, if it has a comment", !line.contains("//") || m.matches());
        body.append(m.matches() ? kept(line, m.group(1), calls.size()) : line).append("\n");
        if (m.matches()) {
          calls.add(m.group(1));
          due.add(m.group(2).equals("NO") ? Long.MIN_VALUE : Long.parseLong(m.group(2)));
        }
      }
      is.due("answers are shown", calls.size() >= 10);
      long[] got = run("Shown" + i, calls.size(), body.toString());
      for (int k = 0; k < got.length; k++) is.due("program " + i + ": " + calls.get(k), got[k], due.get(k));
    }
  }

  private static String kept(String line, String call, int k) {
    return line.startsWith("x.") ? "got[" + k + "] = " + call + ";" : line.replaceAll("(int (\\w+) = .*;)\\s+//.*", "$1 got[" + k + "] = $2;");
  }

  private static long[] run(String name, int size, String body) throws Exception {
    String text = "public class " + name + " { public static long[] run() { long[] got = new long[" + size + "];\n" + body + "return got; } }";
    Compiled made = Compiled.of(Map.of(name, text));
    is.due(name + " is Java", made.isJava());
    return made.isJava() ? (long[]) made.loadClass(name).getMethod("run").invoke(null) : new long[0];
  }

  private static List<String[]> rows(String page, String head) {
    List<String[]> found = new ArrayList<>();
    int from = page.indexOf(head);
    String table = from < 0 ? "" : page.substring(from, page.indexOf("\n\n", from));
    for (String line : table.split("\n")) {
      String[] cells = line.replaceAll("^\\||\\|$", "").split("\\|", -1);
      for (int i = 0; i < cells.length; i++) cells[i] = cells[i].trim();
      if (!line.startsWith("|--") && !line.startsWith(head)) found.add(cells);
    }
    return found;
  }

  private static void answers(String page, String document) throws Exception {
    List<String[]> rows = rows(page, "| answer |");
    is.due("answers that refuse", rows.size(), 10);
    for (String[] row : rows) {
      is.due("'" + row[2] + "' stands in the document", document.contains(row[2]));
      boolean isNo = row[0].equals("`Long.MIN_VALUE`");
      is.due(row[0] + " is the number of its words", isNo || row[2].contains(row[0]));
      if (row[1].isEmpty()) continue;
      String name = row[1].replaceAll("`BridgeSentences\\.(\\w+)`", "$1");
      long value = ((Number) BridgeSentences.class.getField(name).get(null)).longValue();
      is.due(row[1], value, isNo ? Long.MIN_VALUE : Long.parseLong(row[0]));
    }
  }

  /** Each call of the face has its row, whose words are all that the document has there of refusals. */
  private static void calls(String page, String document) {
    Map<String, String> due = new LinkedHashMap<>();
    Matcher m = Pattern.compile("## Promise \\d+: \\w+\n\n`(?:int|long) (\\w+)\\((.*?)\\)`: (.*)").matcher(document);
    while (m.find()) due.put("`" + m.group(1) + "(" + m.group(2).replaceAll("(int|long|boolean) ", "") + ")`", m.group(3));
    is.due("calls of the document", due.size(), 32);
    List<String> told = new ArrayList<>();
    for (String[] row : rows(page, "| call |")) {
      told.add(row[0]);
      String words = due.getOrDefault(row[0], "");
      is.due(row[0] + " ends with '" + row[1] + "'", words.endsWith(row[1]) && words.length() > row[1].length());
      String rest = words.substring(0, Math.max(0, words.length() - row[1].length()));
      is.due(row[0] + " has no other refusal", !REFUSALS.matcher(rest).find());
      is.due(row[0] + " has one, if it has words", row[1].isEmpty() || REFUSALS.matcher(row[1]).find());
    }
    is.due("every call, in the document's order: " + told, told.equals(new ArrayList<>(due.keySet())));
  }

  private static void quotes(String page, String document) {
    Matcher m = Pattern.compile("\"([^\"]+)\"").matcher(flat(page.replaceAll("(?s)```.*?```", "")));
    int found = 0;
    while (m.find()) {
      is.due("'" + m.group(1) + "' stands in the document", document.contains(m.group(1)));
      found++;
    }
    is.due("the document's words are told", found > 0);
  }

  private static void tests(String page) throws Exception {
    String commands = String.join("\n", blocks(page, "sh"));
    for (String part : new String[] {".ci/run", "src/main/java/BridgeSentences.java", "../shared/tests/*.java", "src/test/java/*.java", "src/test/java/*Test.java"}) {
      is.due("a command with " + part, commands.contains(part));
    }
    try (Stream<Path> files = Files.list(Path.of("src/test/java"))) {
      for (Path file : files.sorted().toList()) {
        String name = file.getFileName().toString().replace(".java", "");
        if (name.endsWith("Test")) is.due("the page tells of " + name, page.contains("- `" + name + "`: "));
      }
    }
  }
}
