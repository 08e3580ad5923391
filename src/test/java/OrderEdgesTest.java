import java.math.BigInteger;
import java.util.ArrayList;
import java.util.Arrays;
import java.util.List;
import java.util.function.Supplier;

/** The sentences on refusals, their order and what they leave; and promise 37 where it takes refusals in. */
public final class OrderEdgesTest {
  private static final Sentences s = new Sentences("OrderEdgesTest");
  private static final int LAST = Land.LAST_HOUR;
  private static final int LEAST = Integer.MIN_VALUE;
  private static final List<String> ASKING = List.of("fault", "light", "place", "round", "next", "lasts", "spells",
      "without", "month", "drift", "shortest", "together", "dials", "fits", "watch", "price", "crop", "planting",
      "clouds", "count", "digest");

  public static void main(String[] args) {
    s.says("BAD -2 (a number not as told, no such thing)", OrderEdgesTest::allWrong);
    s.says("Refusals, the first that fits, in the order told at each act", OrderEdgesTest::badFirst);
    s.says("NULL, NOT -3 (as told), FULL -4, other FINDINGS.", OrderEdgesTest::nullFirst);
    s.says("They change nothing (FINDINGS but count() 8).", OrderEdgesTest::changeNothing);
    s.says("Nothing is promised beyond the answers and state changes described above", OrderEdgesTest::askingChangesNothing);
    s.says("8 the number of the latest FINDING", OrderEdgesTest::findingIsKept);
    s.says("Where the answer is a long, a refusal -x is the least long and x more.", OrderEdgesTest::leastLong);
    s.says("public static final int NONE = -1, BAD = -2, NOT = -3, FULL = -4;", OrderEdgesTest::constants);
    s.says("h is 17; h becomes 31 h and each of", OrderEdgesTest::digestOfANewOne);
    s.says("count() 0 to 7; of texts fault(); light() of hours 0, 7, 999, lasts(7);", OrderEdgesTest::digestOfManyStates);
    s.says("drift(it, 9) (as it is told), shortest(it, 4, 20, 0 and 1) (as they are told)", OrderEdgesTest::digestOfRefusedSuns);
    s.says("watch() 0, 1 (as they are told)", OrderEdgesTest::digestOfRefusedWatch);
    s.says("as longs that wrap.", OrderEdgesTest::digestWraps);
    s.end();
  }

  /** Every number of a call at once is one that may not be, in lands in which much else would be refused, too. */
  private static void allWrong() {
    int[] far = {-2, LEAST, Integer.MAX_VALUE, LAST + 1};
    for (Calls call : Calls.ALL) {
      for (int v : far) {
        if (call.parameters() == 0) continue;
        int[] args = new int[call.parameters()];
        Arrays.fill(args, v);
        s.isBad(Land::fresh, call.name, args);
        s.isBad(Land::lived, call.name, args);
        s.isBad(OrderEdgesTest::full, call.name, args);
      }
    }
  }

  /** Both texts are full and have a FAULT; no sun is ever up; sheets are LOST but for one. */
  private static Land full() {
    Land x = Land.fresh().suns(40, 39, 0, 39, 38, 0).text(0, "x".repeat(60)).text(1, "1".repeat(20));
    return x.sheet(1, 1, 5, 6);
  }

  private static Land nothingFits() { return Land.fresh().text(0, "nnnn"); }

  private static void badFirst() {
    Supplier<Land> full = OrderEdgesTest::full;
    s.refused(full, -2, "type", 0, 256);
    s.refused(full, -4, "type", 0, 255);
    s.refused(Land::fresh, -2, "undo", 2);
    s.refused(Land::fresh, -3, "undo", 1);
    s.refused(full, -2, "drift", 0, 61);
    s.refused(full, -2, "drift", 2, 60);
    s.refused(full, -3, "drift", 0, 60);
    s.refused(full, -2, "shortest", 1, 20, 80, 2);
    s.refused(full, -2, "shortest", 1, 20, 81, 1);
    s.refused(full, -2, "shortest", 1, 21, 80, 1);
    s.refused(full, -2, "shortest", 2, 20, 80, 1);
    s.refused(full, -3, "shortest", 1, 20, 80, 1);
    s.refused(OrderEdgesTest::nothingFits, -2, "watch", 2);
    s.refused(OrderEdgesTest::nothingFits, -3, "watch", 1);
    s.refused(full, -2, "read", 0, 4);
    s.found(full, 1, "read", 0, 3);
    s.refused(full, -2, "sheet", 0, 3, -1);
    s.refused(full, -2, "sheet", 4, 2, -1);
    s.found(full, 5, "sheet", 0, 2, -1);
    s.refused(full, -2, "lose", 4);
    s.found(full, 1, "lose", 3);
    s.refused(full, -2, "write", LAST + 1, 0);
    s.found(full, 1, "write", LAST, 0);
  }

  private static void nullFirst() {
    Supplier<Land> full = OrderEdgesTest::full;
    s.refused(full, -2, "put", 0, 3, -1, 0);
    s.found(full, 1, "put", 0, 2, -1, 0);
    s.found(full, 3, "put", 1, 2, -1, 0);
    s.found(full, 2, "put", 1, 1, -1, 0);
    s.refused(full, LEAST, "get", 0, 3, -1);
    s.found(full, 1, "get", 0, 2, -1);
    s.found(full, 3, "get", 1, 2, -1);
    s.found(full, 2, "get", 1, 1, -1);
    Supplier<Land> two = () -> full().sheet(2, 2, 7);
    s.refused(two, -2, "copy", 4, -1, 0, -1, -1);
    s.refused(two, -2, "copy", 0, -1, 4, -1, -1);
    s.found(two, 1, "copy", 0, -1, 1, -1, -1);
    s.found(two, 1, "copy", 1, -1, 0, -1, -1);
    s.found(two, 4, "copy", 1, -1, 2, -1, -1);
    s.found(two, 2, "copy", 1, -1, 1, -1, -1);
    s.refused(two, -2, "sheet", 1, 1, 49);
    s.found(two, 5, "sheet", 1, 1, -1);
  }

  /** Where the bounds of a call's table are not those of BAD; SheetsEdgesTest tells of these. */
  private static boolean isFree(String call, int at, int v) {
    switch (call) {
      case "put": return at >= 2;
      case "get": return at == 2;
      case "copy": return at != 0 && at != 2;
      case "sheet": return at == 2 && v < 0;
      default: return false;
    }
  }

  /** Each number by itself, just outside of what may be, with the others at their least and at their most. */
  private static void changeNothing() {
    for (Calls call : Calls.ALL) {
      for (int at = 0; at < call.parameters(); at++) {
        for (int end = 0; end < 2; end++) {
          int[] args = ends(call, end);
          refusedAt(call, args, at, call.bounds[2 * at] - 1);
          refusedAt(call, args, at, call.bounds[2 * at + 1] + 1);
        }
      }
    }
  }

  private static void refusedAt(Calls call, int[] others, int at, int v) {
    if (isFree(call.name, at, v)) return;
    int[] args = others.clone();
    args[at] = v;
    s.isBad(Land::lived, call.name, args);
    s.isBad(OrderEdgesTest::full, call.name, args);
  }

  private static int[] ends(Calls call, int end) {
    int[] args = new int[call.parameters()];
    for (int i = 0; i < args.length; i++) args[i] = call.bounds[2 * i + end];
    return args;
  }

  private static void askingChangesNothing() {
    for (String name : ASKING) {
      for (int end = 0; end < 2; end++) {
        int[] args = ends(Calls.named(name), end);
        s.asks(Land::fresh, name, args);
        s.asks(Land::lived, name, args);
        s.asks(OrderEdgesTest::full, name, args);
      }
    }
    s.asks(Land::lived, "get", 0, 0, 2);
    s.asks(Land::lived, "get", 2, 2, 0);
  }

  /** In that land the latest is 3; neither a call that is well nor one that is BAD, NOT or FULL tells another. */
  private static void findingIsKept() {
    for (Calls call : Calls.ALL) {
      s.due(Land.lived().with(call.name, ends(call, 0)), 3, "count", 8);
      if (call.parameters() > 0) s.due(Land.lived().with(call.name, wrong(call)), 3, "count", 8);
    }
    s.due(Land.lived().with("wipe", 0).with("undo", 0), 3, "count", 8);
    s.due(full().with("put", 1, 0, 0, 0).with("type", 0, 0), 3, "count", 8);
    s.due(Land.lived().with("lose", 0).with("lose", 1).with("lose", 2), 3, "count", 8);
  }

  private static int[] wrong(Calls call) {
    int[] args = ends(call, 0);
    args[0] = -2;
    return args;
  }

  private static void leastLong() {
    long bad = Long.MIN_VALUE + 2;
    for (int what = 0; what < 2; what++) {
      s.refused(Land::lived, bad, "clouds", 2, 0, 14, 16, what);
      s.refused(Land::lived, bad, "clouds", 0, -1, 14, 16, what);
      s.refused(Land::lived, bad, "clouds", 0, LAST + 1, 14, 16, what);
      s.refused(Land::lived, bad, "clouds", 0, 0, 15, 16, what);
      s.refused(Land::lived, bad, "clouds", 0, 0, 14, 17, what);
      s.due(Land.lived(), what, "clouds", 0, LAST, 14, 16, what);
    }
    s.refused(Land::lived, bad, "clouds", 0, 0, 14, 16, 2);
    s.refused(Land::lived, bad, "clouds", 0, 0, 14, 16, -1);
  }

  private static void constants() {
    s.due(Land.fresh(), SecondSunrise.NONE, "fault", 0);
    s.due(Land.fresh(), SecondSunrise.BAD, "fault", 2);
    s.due(Land.fresh(), SecondSunrise.NOT, "undo", 0);
    s.due(full(), SecondSunrise.FULL, "type", 0, 0);
    s.due(Land.fresh(), -1, "fault", 0);
    s.due(Land.fresh(), -2, "fault", 2);
    s.due(Land.fresh(), -3, "undo", 0);
    s.due(full(), -4, "type", 0, 0);
  }

  private static long folded(long[]... rows) {
    BigInteger h = BigInteger.valueOf(17);
    for (long[] row : rows) {
      for (long v : row) h = h.multiply(BigInteger.valueOf(31)).add(BigInteger.valueOf(v));
    }
    return h.longValue();
  }

  private static void digestOfANewOne() {
    long[] counts = {0, 0, 0, 0, 0, 0, 104, 60, -1, -1, 3, 0, 0, 1};
    long[] lights = {61, 21, 9, 3, 50, 35, 11, 5, 53, 18, 8, 3, 52, 30, 10, 5};
    long[] suns = {3, 5, -3, 20, 0, 15, 16, 7, 12, -3, -1, -1, 63, 64};
    long[] others = {9, 2, 1, 41, 104, 0, 0, 35, 0, 2, 2, 2, 2, 14, 0};
    s.due(Land.fresh(), folded(counts, lights, suns, others), "digest");
  }

  private static Land someLand(int seed) {
    Land x = Land.lived();
    x.suns(2 + seed % 39, 1, 1 + seed % 2, 2 + 7 * seed % 39, 0, seed % 3);
    for (int p = 0; p < 6; p++) x.with("awake", p, (seed * (p + 3) + p) % 16);
    for (int p = 0; p < 4; p++) x.with("grows", p, seed % 4, 9 - p).with("plant", p, 1 + (seed + p) % 20);
    for (int i = 0; i < seed % 5; i++) x.with("type", 0, "n.rb.d".charAt((seed + i) % 6));
    return seed % 4 == 0 ? x.with("wipe", 0) : x;
  }

  private static long[] answers(Land x, String call, int[]... args) {
    long[] all = new long[args.length];
    for (int i = 0; i < args.length; i++) all[i] = x.ask(call, args[i]);
    return all;
  }

  /** A row {0, ...}, {1, ...} of numbers, of which the one at that place goes from 0 to most. */
  private static int[][] upTo(int at, int most, int... args) {
    int[][] all = new int[most + 1][];
    for (int v = 0; v <= most; v++) {
      all[v] = args.clone();
      all[v][at] = v;
    }
    return all;
  }

  private static long[] digested(Land x) {
    List<long[]> rows = new ArrayList<>();
    rows.add(answers(x, "count", upTo(0, 7, 0)));
    rows.add(answers(x, "fault", upTo(0, 1, 0)));
    rows.add(answers(x, "light", new int[] {0}, new int[] {7}, new int[] {999}));
    rows.add(answers(x, "lasts", new int[] {7}));
    for (int light = 0; light < 4; light++) {
      rows.add(answers(x, "next", new int[] {50, light}));
      rows.add(answers(x, "spells", upTo(1, 2, light, 0)));
    }
    for (int sun = 0; sun < 2; sun++) {
      rows.add(answers(x, "without", new int[] {sun}));
      rows.add(answers(x, "place", new int[] {sun, 77}));
      rows.add(answers(x, "drift", new int[] {sun, 9}));
      rows.add(answers(x, "shortest", upTo(3, 1, sun, 4, 20, 0)));
      rows.add(answers(x, "clouds", upTo(4, 1, sun, 3, 5, 4, 0)));
    }
    rows.add(answers(x, "together", upTo(3, 1, 7, 2, 9, 0)));
    rows.add(answers(x, "dials", upTo(2, 1, 1, 2, 0)));
    rows.add(answers(x, "fits", upTo(0, 1, 0)));
    rows.add(answers(x, "watch", upTo(0, 1, 0)));
    rows.add(answers(x, "price", new int[] {2}));
    rows.add(answers(x, "crop", upTo(0, 3, 0, 5)));
    rows.add(answers(x, "planting", upTo(2, 1, 1, 12, 0)));
    return rows.stream().flatMapToLong(Arrays::stream).toArray();
  }

  private static void digestOfManyStates() {
    for (int seed = 0; seed < 200; seed++) {
      Land x = someLand(seed);
      s.due(x, folded(digested(x)), "digest");
    }
    s.due(Land.fresh(), folded(digested(Land.fresh())), "digest");
    s.due(full(), folded(digested(full())), "digest");
  }

  /** Suns that are never up, by turns of 2: the ROUND is 2, light is 0 always. */
  private static void digestOfRefusedSuns() {
    Land x = Land.fresh().suns(2, 0, 0, 2, 0, 0).text(1, "02");
    long[] counts = {0, 2, 0, 0, 1, 2, 2, 60, -1, -1, 0, 0, 0, 2};
    long[] lights = {50, 2, 1, 2, -1, 0, 0, 0, -1, 0, 0, 0, -1, 0, 0, 0};
    long[] suns = {2, 1, -3, -3, -3, 0, 1, 2, 1, -3, -3, -3, 0, 1};
    long[] others = {9, 2, 0, -1, 4, 0, 0, 4, 0, 0, 0, 0, 0, 0, -1};
    s.due(x, folded(counts, lights, suns, others), "digest");
    Land up = Land.fresh().suns(2, 0, 2, 2, 0, 2).text(1, "02");
    long[] upLights = {-1, 0, 0, 0, -1, 0, 0, 0, -1, 0, 0, 0, 50, 2, 1, 2};
    long[] upCounts = {0, 2, 0, 0, 1, 2, 2, 60, -1, -1, 3, 3, 3, 2};
    long[] upSuns = {0, 1, 0, 20, 0, 1023, 1024, 0, 1, 0, 20, 0, 1023, 1024};
    long[] upOthers = {9, 2, 0, -1, 4, 0, 0, 4, 0, 8, 8, 8, 8, 24, 0};
    s.due(up, folded(upCounts, upLights, upSuns, upOthers), "digest");
  }

  private static void digestOfRefusedWatch() {
    Land x = Land.fresh().suns(2, 0, 0, 2, 0, 0).text(0, "r").text(1, "00");
    long[] counts = {1, 2, 1, 1, 0, 0, 2, 60, -1, 1, 0, 0, 0, 2};
    long[] lights = {50, 2, 1, 2, -1, 0, 0, 0, -1, 0, 0, 0, -1, 0, 0, 0};
    long[] suns = {2, 1, -3, -3, -3, 0, 1, 2, 1, -3, -3, -3, 0, 1};
    long[] others = {9, 2, 0, -1, 0, -1, -3, -3, 0, 0, 0, 0, 0, 0, -1};
    s.due(x, folded(counts, lights, suns, others), "digest");
  }

  /** A digest that is asked for changes nothing, count(8) too, though it asks what is refused. */
  private static void digestWraps() {
    Land x = Land.fresh();
    s.due(x, 2653278343592424232L, "digest");
    s.due(x, 2653278343592424232L, "digest");
    s.due(x, 0, "count", 8);
    s.due(Land.fresh().with("digest").with("worth", 0, 11), 2653278343592424232L + power(31, 51), "digest");
    Land lived = Land.lived().with("digest");
    s.due(lived, 3, "count", 8);
    s.due(lived, Land.lived().ask("digest"), "digest");
  }

  /** All WORTHS are the eighth of 59 numbers: 51 times 31 stand behind one more of them. */
  private static long power(long base, int times) {
    long all = 1;
    for (int i = 0; i < times; i++) all *= base;
    return all;
  }
}
