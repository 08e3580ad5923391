import java.util.Arrays;
import java.util.Map;
import java.util.function.Supplier;

/** A test of its own for each sentence of the document that names a boundary case; tells the sentence that is broken. */
final class Sentences {
  private final Check check;
  private String sentence = "";
  private int answers = 0;
  private int sentences = 0;

  Sentences(String test) { check = new Check(test); }

  void says(String words, Runnable test) {
    sentence = words;
    int before = answers;
    test.run();
    sentences++;
    check.that("no answer was asked of \"" + words + "\"", answers > before);
  }

  void due(Land x, long want, String call, int... args) {
    answer(Calls.named(call).told(args), x.ask(call, args), want);
  }

  /** What is due of whats 0 on of a call whose last number is what is asked. */
  void dueOf(Land x, String call, int[] args, long... want) {
    int[] all = Arrays.copyOf(args, args.length + 1);
    for (int what = 0; what < want.length; what++) {
      all[args.length] = what;
      due(x, want[what], call, all);
    }
  }

  private void answer(String call, long got, long want) {
    answers++;
    check.due("\"" + sentence + "\": " + call, got, want);
  }

  /** How a call says BAD. */
  static long bad(String call) {
    if (call.equals("clouds")) return Long.MIN_VALUE + 2;
    return call.equals("get") ? Integer.MIN_VALUE : -2;
  }

  /** The call is refused so, and leaves all as it was. */
  void refused(Supplier<Land> made, long want, String call, int... args) {
    Land x = made.get();
    due(x, want, call, args);
    alike(call, args, x.told(), made.get().told(), -1);
  }

  /** A call that only asks: whatever it answers, it leaves all as it was. */
  void asks(Supplier<Land> made, String call, int... args) {
    Land x = made.get();
    x.ask(call, args);
    alike(call, args, x.told(), made.get().told(), -1);
  }

  /** All that can be told of both is alike; this uses both up. */
  void likeOnes(String which, Land got, Land want) {
    Map<String, Long> due = want.told();
    Map<String, Long> told = got.told();
    answer("the number of answers of " + which, told.size(), due.size());
    for (String row : due.keySet()) {
      if (told.containsKey(row)) answer(row + " of " + which, told.get(row), due.get(row));
    }
  }

  void isBad(Supplier<Land> made, String call, int... args) {
    refused(made, bad(call), call, args);
  }

  /** The call answers with the finding, and leaves all as it was but count(8). */
  void found(Supplier<Land> made, int finding, String call, int... args) {
    Land x = made.get();
    due(x, call.equals("get") ? Integer.MIN_VALUE : -10 - finding, call, args);
    alike(call, args, x.told(), made.get().told(), finding);
  }

  /** The row of what is told has count(8) as its ninth; finding -1 where there was none. */
  private void alike(String call, int[] args, Map<String, Long> got, Map<String, Long> want, int finding) {
    String behind = " behind " + Calls.named(call).told(args);
    answer("the number of answers" + behind, got.size(), want.size());
    for (String row : want.keySet()) {
      boolean isFinding = finding >= 0 && row.equals("8 count(8)");
      long due = isFinding ? finding : want.get(row);
      if (got.containsKey(row)) answer(row + behind, got.get(row), due);
    }
  }

  /** The number at that place may be least to most; the ones beside these, and far from these, are BAD. */
  void within(Supplier<Land> made, int at, int least, int most, String call, int... args) {
    int[] well = {least, most};
    for (int v : well) {
      long got = made.get().ask(call, at(args, at, v));
      answer(Calls.named(call).told(at(args, at, v)) + " is BAD", got == bad(call) ? 1 : 0, 0);
    }
    int[] wrong = {least - 1, most + 1, Integer.MIN_VALUE, Integer.MAX_VALUE};
    for (int v : wrong) isBad(made, call, at(args, at, v));
  }

  private static int[] at(int[] args, int at, int v) {
    int[] all = args.clone();
    all[at] = v;
    return all;
  }

  void end() {
    System.out.print(sentences + " sentences, ");
    check.end();
  }
}
