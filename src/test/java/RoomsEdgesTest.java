/** Promises 22 to 29 at their edges: worth, price, plant, grows, read, crop, planting, clouds. */
public final class RoomsEdgesTest {
  private static final Sentences s = new Sentences("RoomsEdgesTest");
  private static final int LAST = Land.LAST_HOUR;

  public static void main(String[] args) {
    s.says("ROOMS (0 to 6) that are dark", RoomsEdgesTest::rooms);
    s.says("those of PEOPLE who are not awake in LIGHT 3 would pay", RoomsEdgesTest::whoPays);
    s.says("what it is WORTH to them (0 to 99; 10 at first)", RoomsEdgesTest::worths);
    s.says("the PRICE that clears: what the greatest of those who get none would pay (0 without).", RoomsEdgesTest::price);
    s.says("PRICE. BAD.", RoomsEdgesTest::priceNumbers);
    s.says("What a dark ROOM is WORTH: what it was. BAD.", RoomsEdgesTest::worth);
    s.says("PLANTS 0 to 3 take HOURS (1 to 20; 4 at first)", RoomsEdgesTest::plants);
    s.says("HOURS of a PLANT: what it was. BAD.", RoomsEdgesTest::plant);
    s.says("and grow in each hour by GROWTH (-9 to 9) by its LIGHT (at first as much as it has SUNS).", RoomsEdgesTest::growth);
    s.says("GROWTH: what it was, and 10. BAD.", RoomsEdgesTest::grows);
    s.says("GROWTH of a PLANT in LIGHTS 0 on by a SHEET, item by item, as long as each may be", RoomsEdgesTest::asLongAs);
    s.says("four at most: how many.", RoomsEdgesTest::fourAtMost);
    s.says("BAD; NULL.", RoomsEdgesTest::readRefusals);
    s.says("CROP of a PLANT planted in an hour: all of this together, if that is more than 0, else 0.", RoomsEdgesTest::crop);
    s.says("CROP. BAD.", RoomsEdgesTest::cropNumbers);
    s.says("PLANTING: from an hour on, in n (0 to 60) hours", RoomsEdgesTest::sixtyHours);
    s.says("PLANTS one behind the other (idle between them, too), each ripe by the end", RoomsEdgesTest::ripe);
    s.says("the most that all is worth", RoomsEdgesTest::most);
    s.says("the first PLANT (or idle for an hour: NONE, rather than any; of like ones the least).", RoomsEdgesTest::firstPlant);
    s.says("PLANTING: the most (what = 0), the first PLANT (1; NONE: idle, or none). BAD.", RoomsEdgesTest::plantingNumbers);
    s.says("CLOUDS hide all SUNS in each hour by sixteenths (0 to 16), by itself", RoomsEdgesTest::sixteenths);
    s.says("the chance that the red or the blue SUN (told) is seen in some of n (0 to 14) hours from one on: a FRACTION.", RoomsEdgesTest::fourteen);
    s.says("FRACTIONS are told in lowest terms, above and below (0 by 1).", RoomsEdgesTest::lowestTerms);
    s.says("The chance: above, below. BAD. (As the least long.)", RoomsEdgesTest::cloudNumbers);
    s.end();
  }

  /** Nobody is awake in LIGHT 3; what a room is worth to each. */
  private static Land sleepers(int... worths) {
    Land x = Land.fresh();
    for (int p = 0; p < worths.length; p++) x.with("awake", p, 7).with("worth", p, worths[p]);
    return x;
  }

  private static void prices(Land x, int... want) {
    for (int rooms = 0; rooms < want.length; rooms++) s.due(x, want[rooms], "price", rooms);
  }

  private static void rooms() {
    prices(sleepers(99, 50, 40, 30, 20, 1), 99, 50, 40, 30, 20, 1, 0);
    prices(Land.fresh().with("awake", 5, 7), 10, 0, 0, 0, 0, 0, 0);
  }

  private static void whoPays() {
    for (int lights = 0; lights < 16; lights++) {
      for (int p = 0; p < 6; p++) {
        Land x = Land.fresh().with("awake", p, lights).with("worth", p, 99);
        prices(x, lights < 8 ? 99 : 0, 0);
      }
    }
    prices(Land.fresh(), 0, 0, 0, 0, 0, 0, 0);
  }

  private static void worths() {
    for (int p = 0; p < 6; p++) {
      Land x = Land.fresh().with("awake", p, 0);
      prices(x, 10, 0);
      s.due(x, 10, "worth", p, 99);
      prices(x, 99, 0);
      s.due(x, 99, "worth", p, 0);
      prices(x, 0, 0);
      s.due(x, 50, "count", 7);
      s.within(Land::lived, 1, 0, 99, "worth", p, 0);
    }
    s.due(Land.fresh(), 60, "count", 7);
    s.due(sleepers(99, 99, 99, 99, 99, 99), 594, "count", 7);
    s.due(sleepers(0, 0, 0, 0, 0, 0), 0, "count", 7);
  }

  private static void price() {
    prices(sleepers(), 0, 0, 0, 0, 0, 0, 0);
    prices(sleepers(7), 7, 0, 0, 0, 0, 0, 0);
    prices(sleepers(7, 7), 7, 7, 0, 0, 0, 0, 0);
    prices(sleepers(3, 7, 7, 3), 7, 7, 3, 3, 0, 0, 0);
    prices(sleepers(0, 0, 0, 0, 0, 0), 0, 0, 0, 0, 0, 0, 0);
    prices(sleepers(1, 2, 3, 4, 5, 99), 99, 5, 4, 3, 2, 1, 0);
    prices(sleepers(99, 99, 99, 99, 99, 99), 99, 99, 99, 99, 99, 99, 0);
  }

  private static void priceNumbers() {
    s.within(Land::lived, 0, 0, 6, "price", 0);
    s.within(Land::fresh, 0, 0, 6, "price", 0);
    s.within(() -> sleepers(99, 99, 99, 99, 99, 99), 0, 0, 6, "price", 0);
  }

  private static void worth() {
    s.within(Land::lived, 0, 0, 5, "worth", 0, 0);
    Land x = Land.fresh();
    for (int p = 0; p < 6; p++) s.due(x, 10, "worth", p, p);
    for (int p = 0; p < 6; p++) s.due(x, p, "worth", p, 99);
    s.due(x, -2, "worth", 0, 100);
    s.due(x, -2, "worth", 0, -1);
    s.due(x, 99, "worth", 0, 0);
  }

  /** The red sun is always up, the blue one never. */
  private static Land bright() { return Land.fresh().suns(2, 0, 2, 2, 0, 0); }

  private static void plants() {
    for (int p = 0; p < 4; p++) {
      Land x = bright();
      s.due(x, 4, "crop", p, 0);
      s.due(x, 4, "plant", p, 1);
      s.due(x, 1, "crop", p, 0);
      s.due(x, 1, "plant", p, 20);
      s.due(x, 20, "crop", p, 0);
      s.due(x, 4, "crop", (p + 1) % 4, 0);
      s.due(x, 20, "plant", p, 4);
      s.within(Land::lived, 1, 1, 20, "plant", p, 1);
    }
  }

  private static void plant() {
    s.within(Land::lived, 0, 0, 3, "plant", 0, 1);
    s.within(Land::lived, 0, 0, 3, "plant", 0, 20);
    Land x = Land.fresh();
    for (int p = 0; p < 4; p++) s.due(x, 4, "plant", p, 17 + p);
    s.due(x, -2, "plant", 0, 0);
    s.due(x, -2, "plant", 0, 21);
    for (int p = 0; p < 4; p++) s.due(x, 17 + p, "plant", p, 1);
    for (int p = 0; p < 4; p++) s.due(x, 1, "plant", p, 1);
  }

  private static void growth() {
    int[][] ups = {{0, 0}, {1, 0}, {0, 1}, {1, 1}};
    int[] first = {0, 1, 1, 2};
    for (int light = 0; light < 4; light++) {
      for (int p = 0; p < 4; p++) {
        Land x = Land.fresh().suns(2, 0, 2 * ups[light][0], 2, 0, 2 * ups[light][1]).with("plant", p, 1);
        s.due(x, first[light], "crop", p, 0);
        s.due(x, first[light] + 10, "grows", p, light, 9);
        s.due(x, 9, "crop", p, 0);
        s.due(x, first[(light + 1) % 4] + 10, "grows", p, (light + 1) % 4, -9);
        s.due(x, 9, "crop", p, 0);
        s.due(x, 19, "grows", p, light, -9);
        s.due(x, 0, "crop", p, 0);
        s.within(Land::lived, 2, -9, 9, "grows", p, light, 0);
      }
    }
  }

  private static void grows() {
    s.within(Land::lived, 0, 0, 3, "grows", 0, 0, 0);
    s.within(Land::lived, 1, 0, 3, "grows", 0, 0, 0);
    Land x = Land.fresh();
    s.due(x, 12, "grows", 3, 3, -9);
    s.due(x, 1, "grows", 3, 3, 9);
    s.due(x, 19, "grows", 3, 3, 0);
    s.due(x, 10, "grows", 3, 3, 0);
    s.due(x, -2, "grows", 3, 3, 10);
    s.due(x, -2, "grows", 3, 3, -10);
    s.due(x, 10, "grows", 3, 3, 0);
  }

  private static void reads(int form, int[] items, int done, int... growth) {
    Land x = Land.fresh().sheet(1, form, items);
    s.due(x, done, "read", 1, 2);
    for (int light = 0; light < 4; light++) s.due(x, growth[light] + 10, "grows", 2, light, 0);
    s.due(x, 12, "grows", 1, 3, 0);
    s.due(x, items.length, "lose", 1);
    s.due(x, 0, "count", 8);
  }

  private static void asLongAs() {
    for (int form = 0; form < 3; form++) {
      reads(form, new int[] {}, 0, 0, 1, 1, 2);
      reads(form, new int[] {9}, 1, 9, 1, 1, 2);
      reads(form, new int[] {10}, 0, 0, 1, 1, 2);
      reads(form, new int[] {-10}, 0, 0, 1, 1, 2);
      reads(form, new int[] {-9, 9}, 2, -9, 9, 1, 2);
      reads(form, new int[] {-9, -10, 3, 4}, 1, -9, 1, 1, 2);
      reads(form, new int[] {3, 4, 10, 5}, 2, 3, 4, 1, 2);
      reads(form, new int[] {3, 4, 5, 10}, 3, 3, 4, 5, 2);
      reads(form, new int[] {3, 4, 5, -10}, 3, 3, 4, 5, 2);
    }
    reads(0, new int[] {256 + 9, 256 - 9}, 2, 9, -9, 1, 2);
    reads(1, new int[] {256 + 9}, 0, 0, 1, 1, 2);
    reads(1, new int[] {65536 - 9}, 1, -9, 1, 1, 2);
    reads(2, new int[] {65536 - 9}, 0, 0, 1, 1, 2);
    reads(2, new int[] {Integer.MIN_VALUE}, 0, 0, 1, 1, 2);
    reads(2, new int[] {9, Integer.MAX_VALUE}, 1, 9, 1, 1, 2);
  }

  private static void fourAtMost() {
    for (int form = 0; form < 3; form++) {
      reads(form, new int[] {-9, 9, -8, 8}, 4, -9, 9, -8, 8);
      reads(form, new int[] {-9, 9, -8, 8, 7}, 4, -9, 9, -8, 8);
      reads(form, new int[] {-9, 9, -8, 8, 99}, 4, -9, 9, -8, 8);
      reads(form, new int[48], 4, 0, 0, 0, 0);
    }
  }

  private static void readRefusals() {
    s.within(Land::lived, 0, 0, 3, "read", 0, 0);
    s.within(Land::lived, 1, 0, 3, "read", 0, 0);
    s.found(Land::lived, 1, "read", 3, 0);
    for (int sheet = 0; sheet < 4; sheet++) s.found(Land::fresh, 1, "read", sheet, 3);
    s.found(() -> Land.lived().with("lose", 0), 1, "read", 0, 0);
    s.isBad(Land::lived, "read", 3, 4);
    s.isBad(Land::lived, "read", 3, -1);
    s.isBad(Land::fresh, "read", 4, 0);
  }

  /** Lights 1 1 1 0 and again; how much plant 2 grows by day and by night. */
  private static Land mostlyDay(int hours, int day, int night) {
    return Land.fresh().suns(4, 0, 3, 2, 0, 0).with("plant", 2, hours)
        .with("grows", 2, 1, day).with("grows", 2, 0, night);
  }

  private static void crop() {
    s.due(mostlyDay(4, 3, -9), 0, "crop", 2, 0);
    s.due(mostlyDay(4, 3, -8), 1, "crop", 2, 0);
    s.due(mostlyDay(4, 2, -7), 0, "crop", 2, 0);
    s.due(mostlyDay(1, 1, -7), 1, "crop", 2, 2);
    s.due(mostlyDay(1, 1, -7), 0, "crop", 2, 3);
    s.due(mostlyDay(1, 1, 0), 0, "crop", 2, 3);
    s.due(mostlyDay(2, 9, -9), 0, "crop", 2, 2);
    s.due(mostlyDay(2, -9, 9), 0, "crop", 2, 3);
    s.due(mostlyDay(2, 9, -9), 18, "crop", 2, 4);
    s.due(mostlyDay(20, 9, 9), 180, "crop", 2, 0);
    s.due(mostlyDay(20, -9, -9), 0, "crop", 2, 0);
    s.due(mostlyDay(20, 9, -9), 90, "crop", 2, LAST);
  }

  private static void cropNumbers() {
    s.within(Land::lived, 0, 0, 3, "crop", 0, 0);
    s.within(Land::lived, 1, 0, LAST, "crop", 3, 0);
    Land x = Land.fresh().suns(4, 0, 3, 2, 0, 0).with("plant", 0, 2);
    s.due(x, 2, "crop", 0, LAST);
    s.due(x, 1, "crop", 0, LAST - 1);
    s.due(x, 1, "crop", 0, LAST - 2);
    s.due(x, 2, "crop", 0, 0);
  }

  private static void planting(Land x, int hour, int n, int most, int first) {
    s.dueOf(x, "planting", new int[] {hour, n}, most, first);
  }

  private static void sixtyHours() {
    Land x = bright().with("plant", 0, 1).with("grows", 0, 1, 9);
    planting(x, 0, 0, 0, -1);
    planting(x, 0, 1, 9, 0);
    planting(x, 0, 59, 531, 0);
    planting(x, 0, 60, 540, 0);
    planting(x, LAST, 60, 540, 0);
    planting(x, LAST, 0, 0, -1);
    s.within(Land::lived, 1, 0, 60, "planting", 0, 0, 0);
    s.within(Land::lived, 1, 0, 60, "planting", LAST, 0, 1);
  }

  private static Land taking(int hours) {
    Land x = bright();
    for (int p = 0; p < 4; p++) x.with("plant", p, hours);
    return x;
  }

  private static void ripe() {
    planting(taking(20), 0, 19, 0, -1);
    planting(taking(20), 0, 20, 20, 0);
    planting(taking(20), 0, 39, 20, -1);
    planting(taking(20), 0, 40, 40, 0);
    planting(taking(20), 0, 60, 60, 0);
    planting(taking(1), 0, 1, 1, 0);
    planting(taking(3), 0, 2, 0, -1);
    planting(taking(3), 0, 3, 3, 0);
    planting(taking(3), 0, 7, 6, -1);
    Land two = taking(20).with("plant", 1, 3).with("plant", 2, 4);
    planting(two, 0, 7, 7, 1);
    planting(two, 0, 8, 8, 2);
    planting(two, 0, 5, 4, -1);
    Land gaps = Land.fresh().suns(4, 0, 3, 2, 0, 0);
    for (int p = 0; p < 4; p++) gaps.with("plant", p, 3).with("grows", p, 0, -9);
    planting(gaps, 0, 3, 3, 0);
    planting(gaps, 0, 7, 6, 0);
    planting(gaps, 1, 6, 3, -1);
    planting(gaps, 3, 4, 3, -1);
    planting(gaps, 0, 60, 45, 0);
  }

  /** A great crop late is better than a small one early that stands in its way; a small one that does not is taken, too. */
  private static void most() {
    Land x = bright().with("plant", 0, 3).with("plant", 1, 5).with("plant", 2, 20).with("plant", 3, 20);
    x.with("grows", 0, 1, 2).with("grows", 1, 1, 3);
    planting(x, 0, 5, 15, 1);
    planting(x, 0, 6, 15, -1);
    planting(x, 0, 8, 21, 0);
    planting(x, 0, 10, 30, 1);
    planting(x, 0, 20, 60, 1);
    planting(x.with("grows", 2, 1, 9), 0, 19, 51, -1);
    planting(x, 0, 20, 180, 2);
    planting(x, 0, 60, 540, 2);
    Land none = bright();
    for (int p = 0; p < 4; p++) none.with("grows", p, 1, -9);
    planting(none, 0, 60, 0, -1);
  }

  private static void firstPlant() {
    planting(taking(4), 0, 4, 4, 0);
    planting(taking(4), 0, 5, 4, -1);
    planting(taking(4).with("grows", 0, 1, 0), 0, 4, 4, 1);
    planting(taking(4).with("grows", 3, 1, 2), 0, 4, 8, 3);
    planting(taking(4).with("grows", 3, 1, 2).with("grows", 2, 1, 2), 0, 4, 8, 2);
    planting(taking(4).with("plant", 1, 2), 0, 4, 4, 0);
    planting(taking(4).with("plant", 0, 2).with("grows", 0, 1, 0), 0, 4, 4, 1);
    Land worthless = Land.fresh().suns(2, 0, 0, 2, 0, 0).with("plant", 0, 1);
    planting(worthless, 0, 60, 0, -1);
    planting(worthless.with("grows", 0, 0, -9), 0, 60, 0, -1);
    planting(worthless.with("grows", 3, 0, 1), 0, 4, 4, 3);
    planting(worthless, 0, 5, 4, -1);
  }

  private static void plantingNumbers() {
    s.within(Land::lived, 2, 0, 1, "planting", 0, 20, 0);
    s.within(Land::lived, 0, 0, LAST, "planting", 0, 60, 0);
    planting(Land.lived(), 0, 0, 0, -1);
    Land x = Land.fresh().suns(4, 0, 3, 2, 0, 0).with("plant", 0, 1);
    planting(x, LAST, 4, 3, 0);
    planting(x, LAST - 1, 4, 3, -1);
  }

  private static void clouds(Land x, int sun, int hour, int n, int sixteenths, long above, long below) {
    s.dueOf(x, "clouds", new int[] {sun, hour, n, sixteenths}, above, below);
  }

  /** Both suns are always up. */
  private static Land day() { return Land.fresh().suns(2, 0, 2, 3, 0, 3); }

  private static void sixteenths() {
    for (int sun = 0; sun < 2; sun++) {
      clouds(day(), sun, 0, 1, 0, 1, 1);
      clouds(day(), sun, 0, 1, 1, 15, 16);
      clouds(day(), sun, 0, 1, 15, 1, 16);
      clouds(day(), sun, 0, 1, 16, 0, 1);
      clouds(day(), sun, 0, 14, 0, 1, 1);
      clouds(day(), sun, 0, 14, 16, 0, 1);
      clouds(day(), sun, 0, 2, 15, 31, 256);
      clouds(day(), sun, 0, 2, 1, 255, 256);
      for (int what = 0; what < 2; what++) s.within(Land::lived, 3, 0, 16, "clouds", sun, 0, 3, 0, what);
    }
  }

  private static void fourteen() {
    long all = 1L << 56;
    for (int sun = 0; sun < 2; sun++) {
      clouds(day(), sun, 0, 0, 0, 0, 1);
      clouds(day(), sun, 0, 0, 16, 0, 1);
      clouds(day(), sun, LAST, 14, 15, all - 29192926025390625L, all);
      clouds(day(), sun, 0, 14, 1, all - 1, all);
      clouds(day(), sun, 0, 13, 1, (all >> 4) - 1, all >> 4);
      for (int what = 0; what < 2; what++) s.within(Land::lived, 2, 0, 14, "clouds", sun, 0, 0, 3, what);
    }
    Land never = Land.fresh().suns(8, 0, 0, 13, 0, 1);
    clouds(never, 0, 0, 14, 0, 0, 1);
    clouds(never, 1, 0, 14, 8, 3, 4);
    clouds(never, 1, 0, 13, 8, 1, 2);
    clouds(never, 1, 1, 12, 0, 0, 1);
    clouds(never, 1, 1, 13, 0, 1, 1);
    clouds(Land.fresh(), 0, 4, 1, 8, 1, 2);
    clouds(Land.fresh(), 0, 5, 3, 8, 0, 1);
    clouds(Land.fresh(), 0, 5, 4, 8, 1, 2);
    clouds(Land.fresh(), 1, LAST, 1, 0, 0, 1);
  }

  private static void lowestTerms() {
    clouds(day(), 0, 0, 1, 8, 1, 2);
    clouds(day(), 0, 0, 1, 4, 3, 4);
    clouds(day(), 0, 0, 1, 12, 1, 4);
    clouds(day(), 0, 0, 1, 2, 7, 8);
    clouds(day(), 0, 0, 1, 14, 1, 8);
    clouds(day(), 0, 0, 14, 8, 16383, 16384);
    clouds(day(), 0, 0, 14, 2, (1L << 42) - 1, 1L << 42);
    clouds(day(), 0, 0, 14, 16, 0, 1);
    clouds(day(), 0, 0, 0, 8, 0, 1);
    clouds(day(), 0, 0, 14, 0, 1, 1);
  }

  private static void cloudNumbers() {
    s.within(Land::lived, 4, 0, 1, "clouds", 0, 0, 3, 8, 0);
    s.within(Land::lived, 1, 0, LAST, "clouds", 1, 0, 14, 8, 1);
    s.refused(Land::lived, -9223372036854775806L, "clouds", 2, 0, 0, 0, 0);
    s.refused(Land::lived, -9223372036854775806L, "clouds", -1, 0, 0, 0, 0);
    s.refused(Land::lived, -9223372036854775806L, "clouds", 0, 0, 15, 0, 0);
    s.refused(Land::lived, -9223372036854775806L, "clouds", 0, 0, 0, 17, 1);
  }
}
