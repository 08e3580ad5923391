import java.lang.reflect.Method;
import java.util.Arrays;
import java.util.Random;

/** One call of the face, with the bounds of each of its numbers, made on the class and on the model alike. */
final class Calls {
  private static final int H = 1000000000;
  static final Calls[] ALL = {
    of("sun", 0, 1, 0, 2, 0, 40), of("type", 0, 1, 0, 255), of("wipe", 0, 1), of("undo", 0, 1), of("fault", 0, 1),
    of("light", 0, H), of("place", 0, 1, 0, H), of("round"), of("next", 0, H, 0, 3), of("lasts", 0, H),
    of("spells", 0, 3, 0, 2), of("without", 0, 1), of("month", 0, 5), of("drift", 0, 1, 1, 60),
    of("shortest", 0, 1, 0, 20, 2, 80, 0, 1), of("awake", 0, 5, 0, 15), of("together", 0, 63, 0, H, 1, 100, 0, 1),
    of("dials", -1, 39, -1, 39, 0, 1), of("fits", 0, 1), of("watch", 0, 1), of("worth", 0, 5, 0, 99),
    of("price", 0, 6), of("plant", 0, 3, 1, 20), of("grows", 0, 3, 0, 3, -9, 9), of("read", 0, 3, 0, 3),
    of("crop", 0, 3, 0, H), of("planting", 0, H, 0, 60, 0, 1), of("clouds", 0, 1, 0, H, 0, 14, 0, 16, 0, 1),
    of("sheet", 0, 3, 0, 2, 0, 48), of("lose", 0, 3), of("put", 0, 3, 0, 2, 0, 47, -300, 300),
    of("get", 0, 3, 0, 2, 0, 47), of("copy", 0, 3, 0, 48, 0, 3, 0, 48, 0, 48), of("write", 0, H, 0, 3),
    of("count", 0, 8), of("digest"),
  };

  final String name;
  final int[] bounds;
  private final Method real;
  private final Method plain;

  private Calls(String name, int[] bounds) {
    this.name = name;
    this.bounds = bounds;
    real = find(SecondSunrise.class, name);
    plain = find(PlainModel.class, name);
    plain.setAccessible(true);
  }

  private static Calls of(String name, int... bounds) { return new Calls(name, bounds); }

  private static Method find(Class<?> c, String name) {
    return Arrays.stream(c.getDeclaredMethods()).filter(m -> m.getName().equals(name)).findFirst().orElseThrow();
  }

  static Calls named(String name) {
    for (Calls call : ALL) if (call.name.equals(name)) return call;
    throw new IllegalArgumentException("no call " + name);
  }

  int parameters() { return bounds.length / 2; }

  private static long ask(Method m, Object on, int[] args) {
    try {
      return ((Number) m.invoke(on, Arrays.stream(args).boxed().toArray())).longValue();
    } catch (ReflectiveOperationException e) {
      throw new IllegalStateException(m.getName() + Arrays.toString(args), e);
    }
  }

  long askReal(SecondSunrise x, int[] args) { return ask(real, x, args); }
  long askPlain(PlainModel x, int[] args) { return ask(plain, x, args); }

  /** Mostly numbers as told, often small ones and those at the edges, sometimes one that is not as told. */
  int[] someArguments(Random random) {
    int[] args = new int[parameters()];
    boolean wrong = random.nextInt(12) == 0;
    for (int i = 0; i < args.length; i++) {
      int lo = bounds[2 * i];
      int hi = bounds[2 * i + 1];
      int kind = random.nextInt(10);
      if (wrong && kind < 4) args[i] = wrongFor(lo, hi, random);
      else if (kind == 4) args[i] = lo;
      else if (kind == 5) args[i] = hi;
      else if (kind < 8) args[i] = lo + random.nextInt(Math.min(hi - lo + 1, 12));
      else args[i] = lo + random.nextInt(hi - lo + 1);
    }
    return args;
  }

  private static int wrongFor(int lo, int hi, Random random) {
    int[] wrong = {lo - 1, hi + 1, Integer.MIN_VALUE, Integer.MAX_VALUE, -1000, hi + 7};
    return wrong[random.nextInt(wrong.length)];
  }

  String told(int[] args) {
    String row = Arrays.toString(args);
    return name + "(" + row.substring(1, row.length() - 1) + ")";
  }
}
