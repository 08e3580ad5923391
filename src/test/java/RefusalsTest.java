/** Every number of every call, one below and one above its bounds: refused as BAD, and nothing is changed. */
public final class RefusalsTest {
  private static final Check c = new Check("RefusalsTest");

  public static void main(String[] args) {
    for (Calls call : Calls.ALL) {
      for (int i = 0; i < call.parameters(); i++) {
        refused(call, i, call.bounds[2 * i] - 1);
        refused(call, i, Integer.MIN_VALUE);
        refused(call, i, call.bounds[2 * i + 1] + 1);
        refused(call, i, Integer.MAX_VALUE);
      }
    }
    c.end();
  }

  /** Findings, not BAD, and values of any size are told in SheetsTest. */
  private static boolean isFree(Calls call, int i, int v) {
    switch (call.name) {
      case "put": return i >= 2;
      case "get": return i == 2;
      case "copy": return i != 0 && i != 2;
      case "sheet": return i == 2 && v < 0;
      default: return false;
    }
  }

  private static void refused(Calls call, int i, int v) {
    if (isFree(call, i, v)) return;
    SecondSunrise x = ready();
    long[] before = state(x);
    int[] args = new int[call.parameters()];
    for (int k = 0; k < args.length; k++) args[k] = call.bounds[2 * k];
    args[i] = v;
    long want = call.name.equals("clouds") ? Long.MIN_VALUE + 2 : call.name.equals("get") ? Integer.MIN_VALUE : -2;
    c.due(call.told(args), call.askReal(x, args), want);
    long[] after = state(x);
    for (int k = 0; k < before.length; k++) c.due("state " + k + " behind " + call.told(args), after[k], before[k]);
  }

  private static SecondSunrise ready() {
    SecondSunrise x = new SecondSunrise();
    Check.type(x, 0, "d...");
    Check.type(x, 1, "07;08");
    for (int s = 0; s < 4; s++) {
      x.sheet(s, s % 3, 2);
      x.put(s, s % 3, 1, 5);
    }
    return x;
  }

  private static long[] state(SecondSunrise x) {
    long[] state = {x.digest(), x.count(8), 0, 0, 0, 0, x.count(0), x.count(1)};
    for (int s = 0; s < 4; s++) state[2 + s] = x.get(s, s % 3, 1);
    return state;
  }
}
