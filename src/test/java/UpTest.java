/** Promises 7 to 13: light, place, round, next, lasts, spells, without. */
public final class UpTest {
  private static final Check c = new Check("UpTest");

  public static void main(String[] args) {
    lightsAndPlaces();
    rounds();
    nexts();
    lasting();
    spellsOfLights();
    withoutSuns();
    c.end();
  }

  private static void lightsAndPlaces() {
    SecondSunrise x = Check.dozen();
    int[] lights = {1, 2, 0, 1, 3, 0, 0, 3, 1, 0, 2, 1};
    for (int h = 0; h < 36; h++) {
      c.due("light(" + h + ")", x.light(h), lights[h % 12]);
      c.due("place(0, " + h + ")", x.place(0, h), (h + 1) % 4);
      c.due("place(1, " + h + ")", x.place(1, h), (h + 2) % 3);
    }
    c.due("the last hour", x.light(1000000000), lights[1000000000 % 12]);
    c.due("place of a sun that is not up", x.place(0, 1), 2);
    c.due("place in the last hour", x.place(1, 1000000000), 0);
    c.due("light(-1)", x.light(-1), -2);
    c.due("light(1000000001)", x.light(1000000001), -2);
    c.due("place(2, 0)", x.place(2, 0), -2);
    c.due("place(-1, 0)", x.place(-1, 0), -2);
    c.due("place(0, -1)", x.place(0, -1), -2);
    c.due("place(0, 1000000001)", x.place(0, 1000000001), -2);
  }

  private static void rounds() {
    int[][] rounds = {{8, 13, 104}, {40, 39, 1560}, {39, 40, 1560}, {40, 40, 40}, {2, 2, 2},
      {2, 4, 4}, {4, 2, 4}, {6, 9, 18}, {12, 18, 36}, {37, 31, 1147}};
    SecondSunrise x = new SecondSunrise();
    for (int[] r : rounds) {
      x.sun(0, 0, r[0]);
      x.sun(1, 0, r[1]);
      c.due("round of " + r[0] + ", " + r[1], x.round(), r[2]);
      c.due("count(6)", x.count(6), r[2]);
    }
  }

  private static void nexts() {
    SecondSunrise x = Check.dozen();
    c.due("it, too", x.next(4, 3), 4);
    c.due("later", x.next(5, 3), 7);
    c.due("across the round's end", x.next(8, 3), 16);
    c.due("behind the last hour", x.next(1000000000, 3), 1000000000);
    c.due("behind the last hour", x.next(1000000000, 0), 1000000001);
    c.due("behind the last hour", x.next(1000000000, 2), 1000000006);
    Check.suns(x, 40, 0, 1, 39, 1, 1);
    c.due("late", x.next(1, 3), 1520);
    c.due("as late as can be", x.next(1521, 3), 3080);
    Check.suns(x, 2, 0, 1, 2, 1, 1);
    c.due("never", x.next(0, 0), -1);
    c.due("never", x.next(7, 3), -1);
    c.due("next(-1, 0)", x.next(-1, 0), -2);
    c.due("next(1000000001, 0)", x.next(1000000001, 0), -2);
    c.due("next(0, -1)", x.next(0, -1), -2);
    c.due("next(0, 4)", x.next(0, 4), -2);
  }

  private static void lasting() {
    SecondSunrise x = Check.dozen();
    c.due("one hour", x.lasts(0), 1);
    c.due("two hours", x.lasts(5), 2);
    c.due("the rest of them", x.lasts(6), 1);
    c.due("across the round's end", x.lasts(11), 2);
    c.due("lasts(-1)", x.lasts(-1), -2);
    c.due("lasts(1000000001)", x.lasts(1000000001), -2);
    c.due("in the last hour", x.lasts(1000000000), 1);
    Check.suns(x, 4, 0, 4, 6, 0, 0);
    c.due("always", x.lasts(3), 12);
    c.due("always", x.lasts(1000000000), 12);
  }

  private static void spellsOf(SecondSunrise x, int light, int hours, int rows, int longest) {
    c.due("hours of " + light, x.spells(light, 0), hours);
    c.due("spells of " + light, x.spells(light, 1), rows);
    c.due("the longest of " + light, x.spells(light, 2), longest);
  }

  private static void spellsOfLights() {
    spellsOf(new SecondSunrise(), 3, 30, 10, 5);
    SecondSunrise x = Check.dozen();
    spellsOf(x, 0, 4, 3, 2);
    spellsOf(x, 1, 4, 3, 2);
    spellsOf(x, 2, 2, 2, 1);
    spellsOf(x, 3, 2, 2, 1);
    Check.suns(x, 4, 0, 4, 6, 0, 6);
    spellsOf(x, 3, 12, 1, 12);
    spellsOf(x, 0, 0, 0, 0);
    Check.suns(x, 4, 0, 0, 6, 0, 0);
    spellsOf(x, 0, 12, 1, 12);
    spellsOf(x, 1, 0, 0, 0);
    Check.suns(x, 40, 20, 39, 40, 0, 0);
    spellsOf(x, 1, 39, 1, 39);
    spellsOf(x, 0, 1, 1, 1);
    c.due("spells(-1, 0)", x.spells(-1, 0), -2);
    c.due("spells(4, 0)", x.spells(4, 0), -2);
    c.due("spells(0, -1)", x.spells(0, -1), -2);
    c.due("spells(0, 3)", x.spells(0, 3), -2);
  }

  private static void withoutSuns() {
    SecondSunrise x = new SecondSunrise();
    c.due("red", x.without(0), 3);
    c.due("blue", x.without(1), 7);
    Check.suns(x, 8, 3, 8, 13, 9, 0);
    c.due("always up", x.without(0), 0);
    c.due("never up", x.without(1), 104);
    Check.suns(x, 8, 6, 1, 40, 0, 39);
    c.due("red", x.without(0), 7);
    c.due("blue", x.without(1), 1);
    c.due("without(2)", x.without(2), -2);
    c.due("without(-1)", x.without(-1), -2);
  }
}
