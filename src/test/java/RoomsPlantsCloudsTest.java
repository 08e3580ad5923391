/** Promises 22 to 29: worth, price, plant, grows, read, crop, planting, clouds. */
public final class RoomsPlantsCloudsTest {
  private static final Check c = new Check("RoomsPlantsCloudsTest");
  private static final long BAD = Long.MIN_VALUE + 2;

  public static void main(String[] args) {
    worths();
    prices();
    plantsTold();
    reading();
    crops();
    plantings();
    cloudsHide();
    c.end();
  }

  private static void worths() {
    SecondSunrise x = new SecondSunrise();
    for (int p = 0; p < 6; p++) {
      c.due("worth first", x.worth(p, 99 - p), 10);
      c.due("worth then", x.worth(p, p), 99 - p);
    }
    c.due("count(7)", x.count(7), 15);
    c.due("worth(6, 0)", x.worth(6, 0), -2);
    c.due("worth(-1, 0)", x.worth(-1, 0), -2);
    c.due("worth(0, 100)", x.worth(0, 100), -2);
    c.due("worth(0, -1)", x.worth(0, -1), -2);
    c.due("refusals change nothing", x.count(7), 15);
  }

  private static void prices() {
    SecondSunrise x = new SecondSunrise();
    for (int r = 0; r <= 6; r++) c.due("all are awake", x.price(r), 0);
    int[] worths = {20, 99, 5, 20, 0, 7};
    for (int p = 0; p < 6; p++) x.worth(p, worths[p]);
    for (int p = 0; p < 6; p++) x.awake(p, 7);
    int[] all = {99, 20, 20, 7, 5, 0, 0};
    for (int r = 0; r <= 6; r++) c.due("all, price(" + r + ")", x.price(r), all[r]);
    x.awake(1, 8);
    x.awake(5, 15);
    int[] some = {20, 20, 5, 0, 0, 0, 0};
    for (int r = 0; r <= 6; r++) c.due("some, price(" + r + ")", x.price(r), some[r]);
    c.due("price(7)", x.price(7), -2);
    c.due("price(-1)", x.price(-1), -2);
  }

  private static void plantsTold() {
    SecondSunrise x = new SecondSunrise();
    for (int p = 0; p < 4; p++) {
      c.due("plant first", x.plant(p, 20 - p), 4);
      c.due("plant then", x.plant(p, 1), 20 - p);
      for (int l = 0; l < 4; l++) {
        c.due("grows first", x.grows(p, l, p - 9), l == 0 ? 10 : l == 3 ? 12 : 11);
        c.due("grows then", x.grows(p, l, 9), p + 1);
      }
    }
    c.due("plant(4, 1)", x.plant(4, 1), -2);
    c.due("plant(-1, 1)", x.plant(-1, 1), -2);
    c.due("plant(0, 0)", x.plant(0, 0), -2);
    c.due("plant(0, 21)", x.plant(0, 21), -2);
    int[][] bad = {{4, 0, 0}, {-1, 0, 0}, {0, 4, 0}, {0, -1, 0}, {0, 0, 10}, {0, 0, -10}};
    for (int[] b : bad) c.due("bad grows", x.grows(b[0], b[1], b[2]), -2);
    c.due("refusals change nothing", x.plant(0, 1), 1);
    c.due("refusals change nothing", x.grows(0, 0, 9), 19);
  }

  private static void sheet(SecondSunrise x, int s, int form, int... items) {
    x.sheet(s, form, items.length);
    for (int i = 0; i < items.length; i++) x.put(s, form, i, items[i]);
  }

  private static void growth(SecondSunrise x, int plant, int... want) {
    for (int l = 0; l < 4; l++) {
      c.due("growth in light " + l, x.grows(plant, l, want[l]), want[l] + 10);
    }
  }

  private static void reading() {
    SecondSunrise x = new SecondSunrise();
    c.due("lost", x.read(0, 0), -11);
    c.due("count(8)", x.count(8), 1);
    c.due("bad goes ahead", x.read(0, 4), -2);
    c.due("read(4, 0)", x.read(4, 0), -2);
    c.due("read(-1, 0)", x.read(-1, 0), -2);
    c.due("read(0, -1)", x.read(0, -1), -2);
    x.sheet(0, 2, 0);
    c.due("no items", x.read(0, 0), 0);
    sheet(x, 0, 2, -9, 9);
    c.due("two items", x.read(0, 0), 2);
    growth(x, 0, -9, 9, 1, 2);
    sheet(x, 1, 0, 3, 4, 5, 6, 7);
    c.due("four at most", x.read(1, 1), 4);
    growth(x, 1, 3, 4, 5, 6);
    sheet(x, 2, 1, 7, 10, 8);
    c.due("as long as each may be", x.read(2, 2), 1);
    growth(x, 2, 7, 1, 1, 2);
    sheet(x, 3, 1, -10, 1);
    c.due("not the first", x.read(3, 3), 0);
    growth(x, 3, 0, 1, 1, 2);
  }

  private static void crops() {
    SecondSunrise x = Check.dozen();
    c.due("crop(0, 0)", x.crop(0, 0), 3);
    c.due("crop(0, 4)", x.crop(0, 4), 4);
    c.due("from the last hour on", x.crop(0, 1000000000), 4);
    x.plant(1, 1);
    c.due("crop(1, 2)", x.crop(1, 2), 0);
    c.due("crop(1, 4)", x.crop(1, 4), 2);
    x.plant(2, 20);
    c.due("20 hours", x.crop(2, 0), 17);
    for (int l = 0; l < 4; l++) x.grows(3, l, -9);
    c.due("not below 0", x.crop(3, 0), 0);
    x.grows(3, 1, 9);
    x.plant(3, 2);
    c.due("9 and -9", x.crop(3, 0), 0);
    c.due("9 and 9", x.crop(3, 11), 18);
    c.due("crop(4, 0)", x.crop(4, 0), -2);
    c.due("crop(-1, 0)", x.crop(-1, 0), -2);
    c.due("crop(0, -1)", x.crop(0, -1), -2);
    c.due("crop(0, 1000000001)", x.crop(0, 1000000001), -2);
  }

  private static void planting(SecondSunrise x, int hour, int n, int most, int first) {
    c.due("planting(" + hour + ", " + n + ", 0)", x.planting(hour, n, 0), most);
    c.due("planting(" + hour + ", " + n + ", 1)", x.planting(hour, n, 1), first);
  }

  private static void plantings() {
    SecondSunrise x = Check.dozen();
    planting(x, 0, 0, 0, -1);
    planting(x, 0, 3, 0, -1);
    planting(x, 0, 4, 3, 0);
    planting(x, 0, 5, 4, -1);
    planting(x, 2, 5, 3, -1);
    x.plant(0, 12);
    planting(x, 3, 60, 50, 0);
    for (int p = 1; p < 4; p++) x.plant(p, 20);
    planting(x, 0, 60, 50, 0);
    planting(x, 0, 12, 10, 0);
    planting(x, 0, 11, 0, -1);
    for (int p = 0; p < 4; p++) x.plant(p, 4);
    for (int l = 0; l < 4; l++) x.grows(0, l, -1);
    planting(x, 0, 4, 3, 1);
    x.plant(2, 2);
    planting(x, 0, 4, 3, 1);
    planting(x, 0, 3, 2, 2);
    x.plant(3, 1);
    x.grows(3, 3, 9);
    planting(x, 2, 1, 0, -1);
    planting(x, 4, 1, 9, 3);
    planting(x, 3, 2, 10, 3);
    planting(x, 1000000000, 4, 18, 3);
    int[][] bad = {{-1, 0, 0}, {1000000001, 0, 0}, {0, -1, 0}, {0, 61, 0}, {0, 0, -1}, {0, 0, 2}};
    for (int[] b : bad) c.due("bad planting", x.planting(b[0], b[1], b[2]), -2);
  }

  private static void clouds(SecondSunrise x, int sun, int hour, int n, int sixteenths, long above, long below) {
    String call = "clouds(" + sun + ", " + hour + ", " + n + ", " + sixteenths + ", ";
    c.due(call + "0)", x.clouds(sun, hour, n, sixteenths, 0), above);
    c.due(call + "1)", x.clouds(sun, hour, n, sixteenths, 1), below);
  }

  private static void cloudsHide() {
    SecondSunrise x = new SecondSunrise();
    clouds(x, 0, 0, 0, 0, 0, 1);
    clouds(x, 0, 0, 0, 8, 0, 1);
    clouds(x, 0, 0, 1, 0, 1, 1);
    clouds(x, 0, 0, 1, 16, 0, 1);
    clouds(x, 0, 5, 3, 0, 0, 1);
    clouds(x, 0, 5, 4, 12, 1, 4);
    clouds(x, 0, 0, 2, 3, 247, 256);
    clouds(x, 1, 0, 2, 6, 55, 64);
    clouds(x, 1, 1000000000, 2, 6, 5, 8);
    Check.suns(x, 8, 0, 8, 13, 0, 0);
    clouds(x, 0, 3, 14, 15, 72057594037927936L - 29192926025390625L, 72057594037927936L);
    clouds(x, 0, 3, 14, 8, 16383, 16384);
    clouds(x, 0, 3, 14, 0, 1, 1);
    clouds(x, 0, 3, 14, 16, 0, 1);
    clouds(x, 1, 3, 14, 0, 0, 1);
    int[][] bad = {{-1, 0, 0, 0, 0}, {2, 0, 0, 0, 0}, {0, -1, 0, 0, 0}, {0, 1000000001, 0, 0, 0},
      {0, 0, -1, 0, 0}, {0, 0, 15, 0, 0}, {0, 0, 0, -1, 0}, {0, 0, 0, 17, 0}, {0, 0, 0, 0, -1}, {0, 0, 0, 0, 2}};
    for (int[] b : bad) c.due("bad clouds", x.clouds(b[0], b[1], b[2], b[3], b[4]), BAD);
  }
}
