import java.util.Random;

/** Promises 1 to 37: runs of calls, made by a fixed row of numbers, against the plain model. */
public final class ModelTest {
  private static final int RUNS = 300;
  private static final Check c = new Check("ModelTest");

  private final Random random;
  private final SecondSunrise real = new SecondSunrise();
  private final PlainModel plain = new PlainModel();
  private final StringBuilder story = new StringBuilder();
  private int calls = 0;

  private ModelTest(long seed) { random = new Random(seed); }

  public static void main(String[] args) {
    for (int seed = 0; seed < RUNS && c.wrong() == 0; seed++) new ModelTest(seed).run();
    c.end();
  }

  private void run() {
    boolean narrow = random.nextInt(3) != 0;
    while (calls < 512 && c.wrong() == 0) {
      switch (random.nextInt(30)) {
        case 0: newSuns(narrow ? 9 : 39); break;
        case 1: newDiary(); break;
        case 2: newCalendar(); break;
        case 3: newSheets(); break;
        default:
          Calls call = Calls.ALL[random.nextInt(Calls.ALL.length)];
          ask(call.name, call.someArguments(random));
      }
    }
    if (c.wrong() != 0) System.out.println(story);
  }

  private void ask(String name, int... args) {
    if (calls >= 512) return;
    calls++;
    for (Calls call : Calls.ALL) {
      if (!call.name.equals(name)) continue;
      long got = call.askReal(real, args);
      story.append(call.told(args)).append(" -> ").append(got).append('\n');
      c.due(call.told(args), got, call.askPlain(plain, args));
    }
  }

  private void newSuns(int span) {
    for (int sun = 0; sun < 2; sun++) {
      int turn = 2 + random.nextInt(span);
      ask("sun", sun, 0, turn);
      ask("sun", sun, 1, random.nextInt(turn));
      ask("sun", sun, 2, random.nextInt(6) == 0 ? random.nextInt(2) * turn : random.nextInt(turn + 1));
    }
  }

  /** A diary that some phases fit, with gaps; sometimes spoilt. */
  private void newDiary() {
    ask("wipe", 0);
    int from = random.nextInt(1000);
    int length = random.nextInt(5) == 0 ? 60 : random.nextInt(12);
    int gaps = random.nextInt(10);
    for (int h = 0; h < length; h++) {
      int letter = random.nextInt(10) < gaps ? '.' : "nrbd".charAt(plain.light(from + h));
      ask("type", 0, random.nextInt(200) == 0 ? random.nextInt(256) : letter);
    }
    for (int what = 0; what < 2; what++) {
      ask("fits", what);
      ask("watch", what);
    }
  }

  private void newCalendar() {
    ask("wipe", 1);
    int months = 1 + random.nextInt(random.nextInt(4) == 0 ? 7 : 4);
    StringBuilder text = new StringBuilder();
    for (int m = 0; m < months; m++) {
      text.append(m == 0 ? "" : ";").append(random.nextInt(10)).append(random.nextInt(10));
    }
    if (random.nextInt(6) == 0) text.append(";x1/:".charAt(random.nextInt(5)));
    for (int i = 0; i < text.length(); i++) ask("type", 1, text.charAt(i));
    ask("fault", 1);
    for (int sun = 0; sun < 2; sun++) {
      ask("drift", sun, 1 + random.nextInt(60));
      int total = 2 + random.nextInt(79);
      int most = random.nextInt(21);
      ask("shortest", sun, most, total, 0);
      ask("shortest", sun, most, total, 1);
    }
  }

  private void newSheets() {
    int form = random.nextInt(3);
    for (int s = 0; s < 4; s++) {
      if (random.nextInt(4) == 0) form = random.nextInt(3);
      int n = random.nextInt(9);
      ask("sheet", s, form, n);
      for (int i = 0; i < n; i++) ask("put", s, form, i, random.nextInt(5) == 0 ? random.nextInt() : random.nextInt(21) - 10);
      for (int i = 0; i < n; i++) ask("get", s, form, i);
    }
    for (int k = 0; k < 8; k++) {
      int n = random.nextInt(6);
      ask("copy", random.nextInt(4), random.nextInt(5) - (random.nextInt(9) == 0 ? 1 : 0), random.nextInt(4), random.nextInt(5), n);
    }
    int s = random.nextInt(4);
    for (int f = 0; f < 3; f++) ask("get", s, f, random.nextInt(6));
    ask("read", s, random.nextInt(4));
    ask("count", 8);
  }
}
