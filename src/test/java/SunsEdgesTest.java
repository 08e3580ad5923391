/** The sentences of "What it is" and "Terms" on suns, and promises 1 and 2, at their edges. */
public final class SunsEdgesTest {
  private static final Sentences s = new Sentences("SunsEdgesTest");
  private static final int LAST = Land.LAST_HOUR;

  public static void main(String[] args) {
    s.says("SUNS are 0 (red) and 1 (blue)", SunsEdgesTest::twoSuns);
    s.says("a TURN (2 to 40 hours; 8 and 13 at first)", SunsEdgesTest::turns);
    s.says("a PHASE (0 to TURN less 1; 0 at first)", SunsEdgesTest::phases);
    s.says("UP (0 to TURN; 5 and 6 at first)", SunsEdgesTest::ups);
    s.says("it is up in an hour h (0 to 1000000000)", SunsEdgesTest::hours);
    s.says("if h and PHASE, modulo TURN (its PLACE in that hour), are less than UP", SunsEdgesTest::lessThanUp);
    s.says("it RISES in an hour in which it is up, its PLACE being 0.", SunsEdgesTest::rises);
    s.says("An object is used for at most 512 calls after it has been made", SunsEdgesTest::lastCall);
    s.says("When a TURN is told, PHASE is taken modulo it", SunsEdgesTest::phaseByTurn);
    s.says("and UP is it at most.", SunsEdgesTest::upByTurn);
    s.says("1 the red one alone, 2 the blue one alone, 3 both, 0 neither.", SunsEdgesTest::lights);
    s.says("the least number of hours behind which all is as it was (the least multiple of both TURNS)", SunsEdgesTest::rounds);
    s.says("An empty DIARY, no CALENDAR; all SHEETS are LOST.", SunsEdgesTest::newObject);
    s.says("TURN (what = 0), PHASE (1), UP (2) of a SUN: what it was. BAD.", SunsEdgesTest::sun);
    s.end();
  }

  private static void twoSuns() {
    s.within(Land::lived, 0, 0, 1, "sun", 0, 0, 9);
    s.within(Land::lived, 0, 0, 1, "sun", 0, 1, 0);
    s.within(Land::lived, 0, 0, 1, "sun", 0, 2, 0);
    s.within(Land::lived, 0, 0, 1, "place", 0, 0);
    s.within(Land::lived, 0, 0, 1, "without", 0);
    s.within(Land::lived, 0, 0, 1, "drift", 0, 1);
    s.within(Land::lived, 0, 0, 1, "shortest", 0, 20, 2, 0);
    s.within(Land::lived, 0, 0, 1, "clouds", 0, 0, 0, 0, 0);
  }

  private static void turns() {
    int[] first = {8, 13};
    for (int sun = 0; sun < 2; sun++) {
      Land x = Land.fresh();
      s.due(x, first[sun], "sun", sun, 0, 2);
      s.due(x, 2, "sun", sun, 0, 40);
      s.due(x, 40, "sun", sun, 0, 39);
      s.within(Land::fresh, 2, 2, 40, "sun", sun, 0, 2);
      s.within(Land::lived, 2, 2, 40, "sun", sun, 0, 2);
    }
  }

  private static Land turned(int sun, int turn) {
    return Land.fresh().with("sun", sun, 0, turn);
  }

  private static void phases() {
    int[] turns = {2, 3, 8, 13, 39, 40};
    for (int sun = 0; sun < 2; sun++) {
      s.due(Land.fresh(), 0, "sun", sun, 1, 1);
      s.due(Land.fresh(), 0, "place", sun, 0);
      for (int t : turns) {
        int one = sun;
        Land x = turned(sun, t);
        s.due(x, 0, "sun", sun, 1, t - 1);
        s.due(x, t - 1, "place", sun, 0);
        s.due(x, 0, "place", sun, 1);
        s.due(x, t - 1, "sun", sun, 1, 0);
        s.due(x, 0, "place", sun, 0);
        s.within(() -> turned(one, t), 2, 0, t - 1, "sun", sun, 1, 0);
        s.within(() -> turned(one, t).with("sun", one, 1, 1), 2, 0, t - 1, "sun", sun, 1, 0);
      }
    }
    s.within(Land::lived, 2, 0, 8, "sun", 0, 1, 0);
    s.within(Land::lived, 2, 0, 6, "sun", 1, 1, 0);
  }

  private static void ups() {
    int[] first = {5, 6};
    int[] turns = {2, 3, 8, 13, 39, 40};
    for (int sun = 0; sun < 2; sun++) {
      s.due(Land.fresh(), first[sun], "sun", sun, 2, 0);
      for (int t : turns) {
        int one = sun;
        Land x = turned(sun, t);
        s.due(x, Math.min(first[sun], t), "sun", sun, 2, t);
        s.due(x, 0, "without", sun);
        s.due(x, t, "sun", sun, 2, 0);
        s.due(x, 0, "sun", sun, 2, t - 1);
        s.within(() -> turned(one, t), 2, 0, t, "sun", sun, 2, 0);
      }
    }
    s.within(Land::lived, 2, 0, 9, "sun", 0, 2, 0);
    s.within(Land::lived, 2, 0, 7, "sun", 1, 2, 0);
  }

  private static void hours() {
    s.within(Land::lived, 0, 0, LAST, "light", 0);
    s.within(Land::lived, 1, 0, LAST, "place", 0, 0);
    s.within(Land::lived, 0, 0, LAST, "next", 0, 0);
    s.within(Land::lived, 0, 0, LAST, "lasts", 0);
    s.within(Land::lived, 1, 0, LAST, "together", 0, 0, 1, 0);
    s.within(Land::lived, 1, 0, LAST, "together", 0, 0, 1, 1);
    s.within(Land::lived, 1, 0, LAST, "crop", 0, 0);
    s.within(Land::lived, 0, 0, LAST, "planting", 0, 0, 0);
    s.within(Land::lived, 0, 0, LAST, "planting", 0, 60, 1);
    s.within(Land::lived, 1, 0, LAST, "clouds", 0, 0, 0, 0, 0);
    s.within(Land::lived, 0, 0, LAST, "write", 0, 0);
  }

  private static void places(Land x, int... lightsFromPlaceLast) {
    for (int h = 0; h < lightsFromPlaceLast.length; h++) s.due(x, lightsFromPlaceLast[h], "light", h);
  }

  /** The red sun's PLACE in hours 0, 1, 2 is 3, 0, 1; the blue one is never up. */
  private static void lessThanUp() {
    places(Land.fresh().suns(4, 3, 0, 2, 0, 0), 0, 0, 0, 0, 0);
    places(Land.fresh().suns(4, 3, 1, 2, 0, 0), 0, 1, 0, 0, 0, 1);
    places(Land.fresh().suns(4, 3, 3, 2, 0, 0), 0, 1, 1, 1, 0, 1);
    places(Land.fresh().suns(4, 3, 4, 2, 0, 0), 1, 1, 1, 1, 1, 1);
    places(Land.fresh().suns(2, 0, 0, 4, 3, 1), 0, 2, 0, 0, 0, 2);
    places(Land.fresh().suns(2, 0, 0, 4, 3, 3), 0, 2, 2, 2, 0, 2);
    Land x = Land.fresh().suns(40, 39, 39, 39, 38, 38);
    s.due(x, 39, "place", 0, 0);
    s.due(x, 38, "place", 1, 0);
    s.due(x, 0, "light", 0);
    s.due(x, 0, "place", 0, 1);
    s.due(x, 0, "place", 1, 1);
    s.due(x, 3, "light", 1);
    s.due(x, 38, "place", 0, 39);
    s.due(x, 39, "place", 0, 40);
    s.due(x, 38, "place", 1, 39);
    s.due(x, 1, "light", 39);
    s.due(x, 2, "light", 40);
    s.due(x, 39, "place", 0, LAST);
    s.due(x, 24, "place", 1, LAST);
    s.due(x, 2, "light", LAST);
    s.due(x, 38, "place", 0, LAST - 1);
    s.due(x, 3, "light", LAST - 1);
  }

  /** Hours 0 to 5 begin a MONTH; always up or up for one hour, it rises in hours 0, 10, 20 alone. */
  private static void rises() {
    int[] away = {0, 1, 2, 3, 4, 5};
    for (int up = 1; up <= 10; up += 9) {
      Land x = Land.fresh().suns(10, 0, up, 10, 0, up).text(1, "01");
      for (int n = 1; n <= 6; n++) {
        s.due(x, away[n - 1], "drift", 0, n);
        s.due(x, away[n - 1], "drift", 1, n);
      }
    }
    s.refused(() -> Land.fresh().suns(10, 0, 0, 10, 0, 10).text(1, "01"), -3, "drift", 0, 1);
    s.refused(() -> Land.fresh().suns(10, 0, 10, 10, 0, 0).text(1, "01"), -3, "drift", 1, 1);
  }

  private static void lastCall() {
    Land young = Land.fresh();
    Land old = Land.fresh();
    while (old.calls() < Land.MOST_CALLS - 1) old.ask("type", 2, 0);
    s.due(old, young.ask("digest"), "digest");
    Land typed = Land.fresh();
    for (int i = 0; i < 255; i++) typed.with("type", 0, 'n').with("undo", 0);
    s.due(typed, 1, "type", 0, 'n');
    s.due(typed, 1, "count", 0);
  }

  private static Land phased(int turn, int phase) {
    return Land.fresh().suns(turn, phase, 2, turn, phase, 2);
  }

  private static void phaseByTurn() {
    int[][] rows = {{40, 39, 40, 39}, {40, 39, 39, 0}, {40, 38, 39, 38}, {40, 39, 38, 1}, {40, 39, 20, 19},
      {40, 39, 13, 0}, {40, 39, 2, 1}, {40, 38, 2, 0}, {13, 12, 6, 0}, {13, 12, 5, 2}, {3, 2, 40, 2}, {8, 0, 3, 0}};
    for (int[] r : rows) {
      for (int sun = 0; sun < 2; sun++) {
        Land x = phased(r[0], r[1]);
        s.due(x, r[0], "sun", sun, 0, r[2]);
        s.due(x, r[3], "place", sun, 0);
        s.due(x, r[3], "sun", sun, 1, 0);
        s.due(x, r[1], "sun", 1 - sun, 1, 0);
        s.due(x, r[0], "sun", 1 - sun, 0, 2);
      }
    }
    Land back = phased(40, 39).with("sun", 0, 0, 2).with("sun", 0, 0, 40);
    s.due(back, 1, "sun", 0, 1, 0);
  }

  private static void upByTurn() {
    int[][] rows = {{40, 40, 40, 40}, {40, 40, 39, 39}, {40, 39, 39, 39}, {40, 38, 39, 38}, {40, 40, 2, 2},
      {40, 2, 2, 2}, {40, 1, 2, 1}, {40, 0, 2, 0}, {2, 2, 40, 2}};
    for (int[] r : rows) {
      for (int sun = 0; sun < 2; sun++) {
        Land x = Land.fresh().suns(r[0], 0, r[1], r[0], 0, r[1]);
        s.due(x, r[0], "sun", sun, 0, r[2]);
        s.due(x, r[3], "sun", sun, 2, 0);
        s.due(x, r[1], "sun", 1 - sun, 2, 0);
      }
    }
    Land back = Land.fresh().suns(40, 0, 40, 40, 0, 40).with("sun", 0, 0, 2).with("sun", 0, 0, 40);
    s.due(back, 2, "sun", 0, 2, 0);
    s.refused(() -> Land.fresh().suns(40, 39, 40, 40, 39, 40), -2, "sun", 0, 0, 1);
    s.refused(() -> Land.fresh().suns(40, 39, 40, 40, 39, 40), -2, "sun", 1, 0, 41);
  }

  private static void lights() {
    int[][] rows = {{0, 0, 0}, {1, 0, 1}, {0, 1, 2}, {1, 1, 3}};
    for (int[] r : rows) {
      Land x = Land.fresh().suns(2, 0, 2 * r[0], 40, 0, 40 * r[1]);
      s.due(x, r[2], "light", 0);
      s.due(x, r[2], "light", LAST);
    }
  }

  private static void rounds() {
    int[][] rows = {{2, 2, 2}, {2, 3, 6}, {2, 40, 40}, {40, 2, 40}, {40, 40, 40}, {39, 40, 1560}, {40, 39, 1560},
      {39, 39, 39}, {38, 40, 760}, {39, 38, 1482}, {24, 36, 72}, {20, 40, 40}, {8, 13, 104}};
    for (int[] r : rows) {
      Land x = Land.fresh().with("sun", 0, 0, r[0]).with("sun", 1, 0, r[1]);
      s.due(x, r[2], "round");
      s.due(x, r[2], "count", 6);
    }
  }

  private static void newObject() {
    Land x = Land.fresh();
    s.due(x, -1, "fault", 0);
    s.due(x, -1, "fault", 1);
    long[] counts = {0, 0, 0, 0, 0, 0, 104, 60, 0};
    s.dueOf(x, "count", new int[0], counts);
    s.due(x, 104, "fits", 0);
    s.due(x, -2, "month", 0);
    s.due(x, -3, "drift", 0, 1);
    s.due(x, -3, "undo", 0);
    s.due(x, -3, "undo", 1);
    for (int sheet = 0; sheet < 4; sheet++) s.found(Land::fresh, 1, "lose", sheet);
    Land.lived();
    s.due(Land.fresh(), x.ask("digest"), "digest");
  }

  private static void sun() {
    s.within(Land::lived, 1, 0, 2, "sun", 0, 0, 3);
    s.within(Land::lived, 1, 0, 2, "sun", 1, 0, 3);
    Land x = Land.fresh();
    int[] first = {8, 0, 5, 13, 0, 6};
    for (int i = 0; i < 6; i++) s.due(x, first[i], "sun", i / 3, i % 3, first[i]);
    for (int i = 0; i < 6; i++) s.due(x, first[i], "sun", i / 3, i % 3, first[i]);
  }
}
