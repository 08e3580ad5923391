import java.util.LinkedHashMap;
import java.util.Map;
import java.util.Random;

/** An object with a count of its calls: behind the 512th its answers are free, so no test may ask for more. */
final class Land {
  static final int MOST_CALLS = 512;
  static final int LAST_HOUR = 1000000000;
  private final SecondSunrise object = new SecondSunrise();
  private int calls = 0;

  long ask(String call, int... args) {
    calls++;
    if (calls > MOST_CALLS) throw new IllegalStateException(call + " is a call behind the 512th");
    return Calls.named(call).askReal(object, args);
  }

  int calls() { return calls; }

  /** turn, phase and up of the red sun, then of the blue one. */
  Land suns(int... v) {
    for (int i = 0; i < 6; i++) ask("sun", i / 3, i % 3, v[i]);
    return this;
  }

  Land text(int text, String bytes) {
    for (int i = 0; i < bytes.length(); i++) ask("type", text, bytes.charAt(i));
    return this;
  }

  Land sheet(int s, int form, int... items) {
    ask("sheet", s, form, items.length);
    for (int i = 0; i < items.length; i++) ask("put", s, form, i, items[i]);
    return this;
  }

  Land with(String call, int... args) {
    ask(call, args);
    return this;
  }

  static Land fresh() { return new Land(); }

  /** A land in which nothing that can be told is as it is at first. */
  static Land lived() { return new Land().live(); }

  private Land live() {
    suns(9, 4, 3, 7, 2, 5).text(0, "d..r").text(1, "07;12");
    for (int p = 0; p < 6; p++) with("awake", p, 2 * p + 1).with("worth", p, 20 + 7 * p);
    for (int p = 0; p < 4; p++) {
      with("plant", p, 5 + p);
      for (int light = 0; light < 4; light++) with("grows", p, light, light + p - 5);
    }
    sheet(0, 0, 5, -6, 7).sheet(1, 1, 300, -8).sheet(2, 2, 70000, 9, -9, 8);
    return with("put", 0, 1, 0, 0);
  }

  /** As lived(), but behind many other calls, so that this many are left of the 512. */
  static Land old(Random random, int left) {
    Land x = new Land();
    int before = MOST_CALLS - left - (lived().calls() + 3);
    while (x.calls() < before) {
      Calls call = Calls.ALL[random.nextInt(Calls.ALL.length)];
      x.with(call.name, call.someArguments(random));
    }
    return x.with("wipe", 0).with("wipe", 1).with("lose", 3).live();
  }

  /** All that can be told of it, by what is told; this uses the land up. */
  Map<String, Long> told() {
    Map<String, Long> all = new LinkedHashMap<>();
    for (int what = 0; what <= 8; what++) tell(all, "count", what);
    tell(all, "digest");
    tellSuns(all);
    tellText(all, 0);
    tellText(all, 1);
    for (int p = 0; p < 6; p++) {
      tell(all, "awake", p, 0);
      tell(all, "worth", p, 0);
    }
    for (int p = 0; p < 4; p++) {
      tell(all, "plant", p, 1);
      for (int light = 0; light < 4; light++) tell(all, "grows", p, light, 0);
    }
    for (int s = 0; s < 4; s++) tellSheet(all, s);
    for (int sun = 0; sun < 2; sun++) tell(all, "sun", sun, 0, 2);
    return all;
  }

  private long tell(Map<String, Long> all, String call, int... args) {
    long answer = ask(call, args);
    all.put(all.size() + " " + Calls.named(call).told(args), answer);
    return answer;
  }

  /** UP and PHASE; TURN comes last of all, as a TURN that is told can change the others. */
  private void tellSuns(Map<String, Long> all) {
    for (int sun = 0; sun < 2; sun++) {
      int up = (int) tell(all, "sun", sun, 2, 0);
      ask("sun", sun, 2, up);
      tell(all, "place", sun, 0);
      tell(all, "without", sun);
    }
    tell(all, "round");
  }

  /** Bytes can't be read, so the text is undone from its end on, and told of at each step. */
  private void tellText(Map<String, Long> all, int text) {
    int bytes = (int) ask("count", text);
    for (int i = 0; i < bytes; i++) {
      tell(all, "fault", text);
      if (text == 0) tell(all, "fits", 1);
      else tell(all, "count", 5);
      tell(all, "undo", text);
    }
  }

  private void tellSheet(Map<String, Long> all, int s) {
    for (int form = 0; form < 3; form++) {
      long item = tell(all, "get", s, form, 0);
      for (int i = 1; i < 48 && item != Integer.MIN_VALUE; i++) item = tell(all, "get", s, form, i);
      tell(all, "count", 8);
    }
    tell(all, "lose", s);
  }
}
