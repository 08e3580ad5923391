import java.io.IOException;
import java.nio.file.DirectoryStream;
import java.nio.file.Files;
import java.nio.file.Path;
import java.util.LinkedHashMap;
import java.util.List;
import java.util.Map;
import java.util.Random;
import java.util.Set;
import java.util.TreeSet;
import java.util.function.Supplier;
import java.util.regex.Matcher;
import java.util.regex.Pattern;

/** README.md says what is so: its example, its refusals, its calls and its tests are those of the project. */
public final class ReadmeTest {
  private static final Check c = new Check("ReadmeTest");
  private static final int TRIES = 400;
  private static final Map<String, Long> answers = new LinkedHashMap<>();

  public static void main(String[] args) throws IOException {
    List<String> lines = Files.readAllLines(Path.of("README.md"));
    example(lines);
    refusals(lines);
    calls(lines);
    tests(lines);
    c.end();
  }

  /** Lines as land.next(0, 0); // 6: ..., all on one object, from above to below. */
  private static void example(List<String> lines) {
    Pattern row = Pattern.compile("land\\.([a-z]+)\\((.*?)\\); +// (-?[0-9]+): .*");
    SecondSunrise land = new SecondSunrise();
    int rows = 0;
    for (String line : lines) {
      Matcher m = row.matcher(line);
      if (m.matches()) {
        rows++;
        c.due(line, Calls.named(m.group(1)).askReal(land, numbers(m.group(2))), Long.parseLong(m.group(3)));
      } else {
        c.that("has no answer: " + line, !line.startsWith("land."));
      }
    }
    c.that("the example has rows", rows > 0);
  }

  private static int[] numbers(String told) {
    if (told.isEmpty()) return new int[0];
    String[] each = told.split(", *");
    int[] all = new int[each.length];
    for (int i = 0; i < all.length; i++) all[i] = each[i].startsWith("'") ? each[i].charAt(1) : Integer.parseInt(each[i]);
    return all;
  }

  /** Rows as | `BAD` | -2 | ... |. */
  private static void refusals(List<String> lines) {
    Pattern row = Pattern.compile("\\| `([A-Z]+)` \\| (-[0-9]+) \\| .* \\|");
    for (String line : lines) {
      Matcher m = row.matcher(line);
      if (m.matches()) answers.put(m.group(1), Long.parseLong(m.group(2)));
    }
    c.that("told in the order in which they are looked at", List.copyOf(answers.keySet())
        .equals(List.of("BAD", "NULL", "NOT", "FULL", "SIZE", "CAST", "STORE", "INDEX")));
    answers.put("NONE", -1L);
    for (String name : answers.keySet()) c.due(name, answers.get(name), due(name));
  }

  private static long due(String name) {
    Land x = Land.fresh().sheet(0, 0, 1).sheet(1, 1, 1);
    switch (name) {
      case "NONE": return SecondSunrise.NONE;
      case "BAD": return SecondSunrise.BAD;
      case "NOT": return SecondSunrise.NOT;
      case "FULL": return SecondSunrise.FULL;
      case "NULL": return x.ask("lose", 3);
      case "INDEX": return x.ask("put", 0, 0, 1, 0);
      case "CAST": return x.ask("put", 0, 1, 0, 0);
      case "STORE": return x.ask("copy", 0, 0, 1, 0, 0);
      case "SIZE": return x.ask("sheet", 0, 0, -1);
      default: return 0;
    }
  }

  /** Rows as | `next(hour, light)` | ... | NONE BAD |: each call of the class, and all that it was seen to answer else. */
  private static void calls(List<String> lines) throws IOException {
    Set<String> due = new TreeSet<>(face());
    Set<String> told = new TreeSet<>();
    Pattern row = Pattern.compile("\\| `(([a-z]+)\\([a-z, ]*\\))` \\| .+ \\|([A-Z ]*)\\|");
    for (String line : lines) {
      Matcher m = row.matcher(line);
      if (!m.matches()) continue;
      c.that(m.group(1) + " is told twice", told.add(m.group(1)));
      Set<String> besides = m.group(3).isBlank() ? Set.of() : Set.of(m.group(3).trim().split(" "));
      Set<String> seen = seenOf(Calls.named(m.group(2)));
      c.that(m.group(1) + " answers " + seen + ", told is " + besides, seen.equals(besides));
    }
    c.that("calls told are " + told + ", due are " + due, told.equals(due));
  }

  /** The calls as the class has them: name(names of numbers). */
  private static Set<String> face() throws IOException {
    String text = Files.readString(Path.of("src/main/java/SecondSunrise.java"));
    Matcher m = Pattern.compile("public (?:int|long) ([a-z]+\\([a-z, ]*\\)) \\{").matcher(text);
    Set<String> all = new TreeSet<>();
    while (m.find()) all.add(m.group(1).replace("int ", ""));
    return all;
  }

  private static Set<String> seenOf(Calls call) {
    List<Supplier<Land>> lands = List.of(Land::fresh, Land::lived, ReadmeTest::likeSheets, ReadmeTest::dark, ReadmeTest::nothingFits);
    Set<String> seen = new TreeSet<>();
    Random random = new Random(5);
    for (Supplier<Land> made : lands) {
      for (int i = 0; i < TRIES; i++) {
        int[] args = call.someArguments(random);
        if (call.name.equals("sheet") && i % 4 == 0) args[2] = -args[2];
        String name = elseName(call.name, made.get(), args);
        if (!name.isEmpty()) seen.add(name);
      }
    }
    return seen;
  }

  /** The name of an answer that is none of what was asked for; of those of get, which are alike, by count(8). */
  private static String elseName(String call, Land x, int[] args) {
    if (call.equals("get")) x.with("sheet", 3, 0, -1);
    long answer = x.ask(call, args);
    if (call.equals("clouds")) return answer < 0 ? nameOf(answer - Long.MIN_VALUE, -1) : "";
    if (call.equals("digest")) return "";
    if (!call.equals("get")) return answer < 0 ? nameOf(answer, 1) : "";
    if (answer != Integer.MIN_VALUE) return "";
    long finding = x.ask("count", 8);
    return finding == 5 ? "BAD" : nameOf(-10 - finding, 1);
  }

  private static String nameOf(long answer, int sign) {
    for (String name : answers.keySet()) if (answers.get(name) == sign * answer) return name;
    return "no name for " + answer;
  }

  private static Land likeSheets() { return Land.fresh().sheet(0, 1, 7, 8).sheet(1, 1, 9).sheet(2, 1).sheet(3, 1, 4, 5, 6); }

  /** The suns are never up, the texts full. */
  private static Land dark() { return Land.fresh().suns(3, 0, 0, 4, 0, 0).text(0, "n".repeat(60)).text(1, "9".repeat(20)); }

  private static Land nothingFits() { return Land.fresh().text(0, "nnnn"); }

  /** Rows as | UpTest | ... |, perhaps of two: each test of the project, and no other. */
  private static void tests(List<String> lines) throws IOException {
    Set<String> told = new TreeSet<>();
    for (String line : lines) {
      Matcher m = Pattern.compile("\\| ([A-Za-z, ]+Test) \\| .* \\|").matcher(line);
      if (m.matches()) told.addAll(List.of(m.group(1).split(", ")));
    }
    Set<String> due = new TreeSet<>();
    try (DirectoryStream<Path> files = Files.newDirectoryStream(Path.of("src/test/java"), "*Test.java")) {
      for (Path file : files) due.add(file.getFileName().toString().replace(".java", ""));
    }
    c.that("tests told are " + told + ", there are " + due, told.equals(due));
  }
}
