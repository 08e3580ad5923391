/** Promises 7 to 13 at their edges: light, place, round, next, lasts, spells, without. */
public final class UpEdgesTest {
  private static final Sentences s = new Sentences("UpEdgesTest");
  private static final int LAST = Land.LAST_HOUR;

  public static void main(String[] args) {
    s.says("LIGHT of an hour. BAD.", UpEdgesTest::light);
    s.says("PLACE of a SUN in an hour, up or not. BAD.", UpEdgesTest::place);
    s.says("The ROUND.", UpEdgesTest::round);
    s.says("NEXT of a LIGHT: the first hour from a told one on (it, too) with it; NONE.", UpEdgesTest::next);
    s.says("NEXT; NONE. BAD.", UpEdgesTest::nextNumbers);
    s.says("(Perhaps later than hour 1000000000.)", UpEdgesTest::later);
    s.says("LASTS: for how many hours from a told one on the LIGHT is as in it", UpEdgesTest::lasts);
    s.says("(0 to the ROUND: as long as that, it is so always)", UpEdgesTest::lastsAlways);
    s.says("LASTS. BAD.", UpEdgesTest::lastsNumbers);
    s.says("In a ROUND (from hour 0 on, going on from its end to its beginning)", UpEdgesTest::acrossTheEnd);
    s.says("how many hours have a LIGHT", UpEdgesTest::hoursOfALight);
    s.says("(rows of hours with it, ahead and behind of which it is another; 1, if it is always so)", UpEdgesTest::spells);
    s.says("the longest of these (the ROUND, if always)", UpEdgesTest::longest);
    s.says("In a ROUND: hours with a LIGHT (what = 0), SPELLS (1), the longest (2). BAD.", UpEdgesTest::spellNumbers);
    s.says("the longest row of hours in which it is not up (the ROUND, if never up; 0, if always)", UpEdgesTest::without);
    s.says("WITHOUT a SUN. BAD.", UpEdgesTest::withoutNumbers);
    s.end();
  }

  /** Lights from hour 0 on: 1 2 0 1 3 0 0 3 1 0 2 1, and again. */
  private static Land dozen() { return Land.fresh().suns(4, 1, 2, 3, 2, 1); }

  /** In a ROUND of 1560 hours the red sun is up in 39, the blue one in 40, both in hour 0 alone. */
  private static Land rare() { return Land.fresh().suns(40, 0, 1, 39, 0, 1); }

  private static void light() {
    Land x = dozen();
    s.due(x, 1, "light", 0);
    s.due(x, 1, "light", 11);
    s.due(x, 1, "light", 12);
    s.due(x, 2, "light", 13);
    s.due(x, 1, "light", LAST - 1);
    s.due(x, 3, "light", LAST);
    s.isBad(UpEdgesTest::dozen, "light", -1);
    s.isBad(UpEdgesTest::dozen, "light", LAST + 1);
    s.isBad(UpEdgesTest::dozen, "light", Integer.MAX_VALUE);
    s.isBad(UpEdgesTest::dozen, "light", Integer.MIN_VALUE);
  }

  private static void place() {
    Land x = Land.fresh().suns(40, 39, 0, 2, 1, 2);
    s.due(x, 39, "place", 0, 0);
    s.due(x, 0, "place", 0, 1);
    s.due(x, 38, "place", 0, 39);
    s.due(x, 39, "place", 0, 40);
    s.due(x, 1, "place", 1, 0);
    s.due(x, 0, "place", 1, 1);
    s.due(x, 39, "place", 0, LAST);
    s.due(x, 1, "place", 1, LAST);
    s.isBad(UpEdgesTest::dozen, "place", 0, LAST + 1);
    s.isBad(UpEdgesTest::dozen, "place", 1, -1);
    s.isBad(UpEdgesTest::dozen, "place", 2, 0);
    s.isBad(UpEdgesTest::dozen, "place", -1, 0);
  }

  private static void round() {
    s.due(Land.fresh(), 104, "round");
    s.due(rare(), 1560, "round");
    s.due(Land.fresh().suns(2, 1, 0, 2, 0, 2), 2, "round");
    Land x = rare().with("sun", 0, 1, 20).with("sun", 1, 2, 0);
    s.due(x, 1560, "round");
  }

  private static void next() {
    s.due(rare(), 0, "next", 0, 3);
    s.due(rare(), 1560, "next", 1, 3);
    s.due(rare(), 1560, "next", 1560, 3);
    s.due(rare(), 3120, "next", 1561, 3);
    s.due(rare(), 40, "next", 0, 1);
    s.due(rare(), 39, "next", 0, 2);
    s.due(rare(), 1, "next", 0, 0);
    Land night = Land.fresh().suns(40, 0, 0, 39, 0, 0);
    s.due(night, 7, "next", 7, 0);
    for (int light = 1; light < 4; light++) s.due(night, -1, "next", 0, light);
    Land day = Land.fresh().suns(40, 0, 40, 39, 0, 39);
    s.due(day, 7, "next", 7, 3);
    for (int light = 0; light < 3; light++) s.due(day, -1, "next", 0, light);
    Land turns = Land.fresh().suns(2, 0, 1, 2, 1, 1);
    s.due(turns, 6, "next", 5, 1);
    s.due(turns, 5, "next", 5, 2);
    s.due(turns, -1, "next", LAST, 0);
    s.due(turns, -1, "next", LAST, 3);
  }

  private static void nextNumbers() {
    for (int light = 0; light < 4; light++) s.within(Land::lived, 0, 0, LAST, "next", 0, light);
    s.within(UpEdgesTest::dozen, 1, 0, 3, "next", 0, 0);
    s.within(Land::lived, 1, 0, 3, "next", LAST, 0);
    Land never = Land.fresh().suns(2, 0, 0, 2, 0, 0);
    s.due(never, -1, "next", 0, 3);
    s.due(never, -2, "next", 0, 4);
    s.due(never, -2, "next", LAST + 1, 3);
  }

  /** By these phases both suns are at PLACE 0 in hour 999999999. */
  private static void later() {
    Land x = rare().with("sun", 0, 1, 1).with("sun", 1, 1, 15);
    s.due(x, LAST - 1, "next", LAST - 1, 3);
    s.due(x, LAST + 1559, "next", LAST, 3);
    s.due(x, LAST, "next", LAST, 0);
    s.due(x, LAST + 39, "next", LAST, 1);
    s.due(x, LAST + 38, "next", LAST, 2);
    s.isBad(UpEdgesTest::dozen, "next", LAST + 1, 3);
    s.isBad(UpEdgesTest::dozen, "next", -1, 3);
  }

  private static void lasts() {
    Land x = Land.fresh().suns(40, 0, 39, 40, 0, 39);
    s.due(x, 39, "lasts", 0);
    s.due(x, 1, "lasts", 38);
    s.due(x, 1, "lasts", 39);
    s.due(x, 39, "lasts", 40);
    s.due(x, 39, "lasts", LAST);
    s.due(rare(), 1, "lasts", 0);
    s.due(rare(), 38, "lasts", 1);
    Land dozen = dozen();
    s.due(dozen, 2, "lasts", 11);
    s.due(dozen, 1, "lasts", 12);
  }

  private static void lastsNumbers() {
    s.within(UpEdgesTest::dozen, 0, 0, LAST, "lasts", 0);
    s.within(Land::lived, 0, 0, LAST, "lasts", 0);
    s.within(() -> Land.fresh().suns(40, 0, 0, 39, 0, 0), 0, 0, LAST, "lasts", 0);
    s.due(dozen(), 1, "lasts", 0);
    s.due(dozen(), 1, "lasts", LAST);
    s.due(dozen(), 2, "lasts", LAST + 1 - 12);
  }

  private static void lastsAlways() {
    int[][] ups = {{0, 0}, {1, 0}, {0, 1}, {1, 1}};
    for (int[] up : ups) {
      Land x = Land.fresh().suns(40, 3, 40 * up[0], 39, 5, 39 * up[1]);
      s.due(x, 1560, "lasts", 0);
      s.due(x, 1560, "lasts", 777);
      s.due(x, 1560, "lasts", LAST);
      Land small = Land.fresh().suns(2, 1, 2 * up[0], 2, 0, 2 * up[1]);
      s.due(small, 2, "lasts", 0);
      s.due(small, 2, "lasts", LAST);
    }
    Land other = Land.fresh().suns(2, 0, 1, 2, 0, 0);
    s.due(other, 1, "lasts", 0);
    s.due(other, 1, "lasts", 1);
  }

  private static void spellsOf(Land x, int light, int hours, int rows, int longest) {
    s.dueOf(x, "spells", new int[] {light}, hours, rows, longest);
  }

  /** The red sun is up in hours 9, 0, 1 and so on alone: one SPELL across the ROUND's end. */
  private static void acrossTheEnd() {
    Land x = Land.fresh().suns(10, 1, 3, 2, 0, 0);
    spellsOf(x, 1, 3, 1, 3);
    spellsOf(x, 0, 7, 1, 7);
    Land ahead = Land.fresh().suns(10, 0, 3, 2, 0, 0);
    spellsOf(ahead, 1, 3, 1, 3);
    spellsOf(ahead, 0, 7, 1, 7);
    Land dozen = dozen();
    spellsOf(dozen, 1, 4, 3, 2);
    s.due(Land.fresh().suns(40, 20, 39, 2, 0, 0), 39, "spells", 1, 2);
  }

  private static void hoursOfALight() {
    int[] hours = {1560 - 39 - 40 + 1, 38, 39, 1};
    for (int light = 0; light < 4; light++) s.due(rare(), hours[light], "spells", light, 0);
    Land night = Land.fresh().suns(40, 0, 0, 39, 0, 0);
    int[] ofNight = {1560, 0, 0, 0};
    for (int light = 0; light < 4; light++) s.due(night, ofNight[light], "spells", light, 0);
    Land small = Land.fresh().suns(2, 0, 1, 2, 0, 2);
    int[] ofSmall = {0, 0, 1, 1};
    for (int light = 0; light < 4; light++) s.due(small, ofSmall[light], "spells", light, 0);
  }

  private static void spells() {
    int[][] ups = {{0, 0}, {1, 0}, {0, 1}, {1, 1}};
    for (int always = 0; always < 4; always++) {
      Land x = Land.fresh().suns(6, 1, 6 * ups[always][0], 4, 3, 4 * ups[always][1]);
      for (int light = 0; light < 4; light++) s.due(x, light == always ? 1 : 0, "spells", light, 1);
    }
    Land turns = Land.fresh().suns(2, 0, 1, 40, 0, 0);
    s.due(turns, 20, "spells", 0, 1);
    s.due(turns, 20, "spells", 1, 1);
    Land one = Land.fresh().suns(40, 0, 39, 40, 0, 40);
    s.due(one, 1, "spells", 2, 1);
    s.due(one, 1, "spells", 3, 1);
    s.due(rare(), 1, "spells", 3, 1);
    s.due(rare(), 38, "spells", 1, 1);
  }

  private static void longest() {
    int[][] ups = {{0, 0}, {1, 0}, {0, 1}, {1, 1}};
    for (int always = 0; always < 4; always++) {
      Land x = Land.fresh().suns(40, 1, 40 * ups[always][0], 39, 3, 39 * ups[always][1]);
      for (int light = 0; light < 4; light++) s.due(x, light == always ? 1560 : 0, "spells", light, 2);
    }
    Land one = Land.fresh().suns(40, 7, 39, 40, 0, 40);
    s.due(one, 39, "spells", 3, 2);
    s.due(one, 1, "spells", 2, 2);
    Land turns = Land.fresh().suns(2, 0, 1, 2, 0, 0);
    s.due(turns, 1, "spells", 1, 2);
  }

  private static void spellNumbers() {
    s.within(Land::lived, 0, 0, 3, "spells", 0, 0);
    s.within(Land::lived, 1, 0, 2, "spells", 0, 0);
    s.within(Land::lived, 1, 0, 2, "spells", 3, 0);
    spellsOf(Land.fresh(), 3, 30, 10, 5);
  }

  private static void without() {
    for (int sun = 0; sun < 2; sun++) {
      int red = 1 - sun;
      Land never = Land.fresh().suns(40, 0, 40 * sun, 39, 0, 39 * red);
      s.due(never, 1560, "without", sun);
      s.due(never, 0, "without", 1 - sun);
    }
    Land same = Land.fresh().suns(40, 5, 0, 40, 5, 1);
    s.due(same, 40, "without", 0);
    s.due(same, 39, "without", 1);
    Land almost = Land.fresh().suns(2, 1, 1, 40, 5, 39);
    s.due(almost, 1, "without", 0);
    s.due(almost, 1, "without", 1);
    Land across = Land.fresh().suns(10, 6, 3, 13, 9, 6);
    s.due(across, 7, "without", 0);
    s.due(across, 7, "without", 1);
  }

  private static void withoutNumbers() {
    s.within(Land::lived, 0, 0, 1, "without", 0);
    s.within(() -> Land.fresh().suns(40, 0, 0, 39, 0, 39), 0, 0, 1, "without", 0);
    s.due(Land.fresh(), 3, "without", 0);
    s.due(Land.fresh(), 7, "without", 1);
  }
}
