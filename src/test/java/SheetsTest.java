/** Promises 30 to 36: sheet, lose, put, get, copy, write, count. */
public final class SheetsTest {
  private static final Check c = new Check("SheetsTest");
  private static final int LEAST = Integer.MIN_VALUE;

  public static void main(String[] args) {
    making();
    losing();
    putting();
    getting();
    copying();
    copyRefusals();
    writing();
    counting();
    c.end();
  }

  private static void making() {
    SecondSunrise x = new SecondSunrise();
    c.due("none", x.sheet(0, 0, 0), 0);
    c.due("most", x.sheet(3, 2, 48), 48);
    c.due("sheet(0, 0, 49)", x.sheet(0, 0, 49), -2);
    c.due("sheet(4, 0, 1)", x.sheet(4, 0, 1), -2);
    c.due("sheet(-1, 0, 1)", x.sheet(-1, 0, 1), -2);
    c.due("sheet(0, 3, 1)", x.sheet(0, 3, 1), -2);
    c.due("sheet(0, -1, 1)", x.sheet(0, -1, 1), -2);
    c.due("bad goes ahead", x.sheet(0, 3, -1), -2);
    c.due("no finding yet", x.count(8), 0);
    c.due("size", x.sheet(3, 0, -1), -15);
    c.due("size", x.sheet(3, 0, LEAST), -15);
    c.due("finding 5", x.count(8), 5);
    x.put(3, 2, 0, 76);
    x.put(3, 2, 47, 77);
    c.due("a finding changes nothing", x.get(3, 2, 47), 77);
    c.due("anew", x.sheet(3, 2, 48), 48);
    c.due("items are 0", x.get(3, 2, 0), 0);
    c.due("items are 0", x.get(3, 2, 47), 0);
  }

  private static void losing() {
    SecondSunrise x = new SecondSunrise();
    for (int s = 0; s < 4; s++) c.due("lost at first", x.lose(s), -11);
    c.due("finding 1", x.count(8), 1);
    x.sheet(2, 1, 17);
    c.due("lose(2)", x.lose(2), 17);
    c.due("lose(2) again", x.lose(2), -11);
    c.due("lose(4)", x.lose(4), -2);
    c.due("lose(-1)", x.lose(-1), -2);
    x.sheet(2, 1, 17);
    c.due("there again", x.get(2, 1, 16), 0);
  }

  private static void putting() {
    SecondSunrise x = new SecondSunrise();
    c.due("null", x.put(0, 0, 0, 1), -11);
    c.due("bad goes ahead of null", x.put(0, 3, 0, 1), -2);
    c.due("put(4, ..)", x.put(4, 0, 0, 1), -2);
    c.due("put(-1, ..)", x.put(-1, 0, 0, 1), -2);
    c.due("form -1", x.put(0, -1, 0, 1), -2);
    int[] values = {0, 1, -1, 127, 128, -128, -129, 255, 256, 32767, 32768, -32769, 65535, 65536, LEAST, Integer.MAX_VALUE};
    for (int form = 0; form < 3; form++) {
      x.sheet(form, form, 3);
      for (int v : values) {
        c.due("put", x.put(form, form, 2, v), 1);
        int want = form == 0 ? (byte) v : form == 1 ? (short) v : v;
        c.due("get of " + v + " as " + form, x.get(form, form, 2), want);
      }
      c.due("others are as they were", x.get(form, form, 1), 0);
    }
    c.due("cast", x.put(0, 1, 0, 1), -13);
    c.due("finding 3", x.count(8), 3);
    c.due("cast goes ahead of index", x.put(0, 2, 99, 1), -13);
    c.due("index", x.put(0, 0, 3, 1), -12);
    c.due("finding 2", x.count(8), 2);
    c.due("index below 0", x.put(0, 0, -1, 1), -12);
    c.due("index", x.put(0, 0, Integer.MAX_VALUE, 1), -12);
  }

  private static void getRefused(SecondSunrise x, int s, int form, int i, int finding) {
    c.due("get(" + s + ", " + form + ", " + i + ")", x.get(s, form, i), LEAST);
    c.due("its finding", x.count(8), finding);
  }

  private static void getting() {
    SecondSunrise x = new SecondSunrise();
    getRefused(x, 4, 0, 0, 0);
    getRefused(x, -1, 0, 0, 0);
    getRefused(x, 0, 3, 0, 0);
    getRefused(x, 0, -1, 0, 0);
    getRefused(x, 0, 0, 0, 1);
    x.sheet(0, 0, 2);
    getRefused(x, 0, 1, 5, 3);
    getRefused(x, 0, 0, 2, 2);
    getRefused(x, 0, 3, 0, 2);
    getRefused(x, 0, 2, 0, 3);
    getRefused(x, 0, 0, -1, 2);
    c.due("a get that is well", x.get(0, 0, 1), 0);
    c.due("keeps the finding", x.count(8), 2);
  }

  private static void fill(SecondSunrise x, int s, int form, int n) {
    x.sheet(s, form, n);
    for (int i = 0; i < n; i++) x.put(s, form, i, i + 1);
  }

  private static void items(SecondSunrise x, int s, int form, int... want) {
    for (int i = 0; i < want.length; i++) c.due("item " + i + " of " + s, x.get(s, form, i), want[i]);
  }

  private static void copying() {
    SecondSunrise x = new SecondSunrise();
    fill(x, 0, 1, 5);
    x.sheet(1, 1, 3);
    c.due("copy", x.copy(0, 3, 1, 1, 2), 1);
    items(x, 1, 1, 0, 4, 5);
    c.due("none, from the ends", x.copy(0, 5, 1, 3, 0), 1);
    items(x, 1, 1, 0, 4, 5);
    c.due("onwards in itself", x.copy(0, 0, 0, 1, 4), 1);
    items(x, 0, 1, 1, 1, 2, 3, 4);
    fill(x, 0, 1, 5);
    c.due("back in itself", x.copy(0, 1, 0, 0, 4), 1);
    items(x, 0, 1, 2, 3, 4, 5, 5);
    fill(x, 2, 2, 48);
    fill(x, 3, 2, 48);
    x.put(2, 2, 47, -5);
    c.due("all", x.copy(2, 0, 3, 0, 48), 1);
    c.due("the last", x.get(3, 2, 47), -5);
  }

  private static void copyRefused(SecondSunrise x, int i, int j, int n) {
    c.due("copy(0, " + i + ", 1, " + j + ", " + n + ")", x.copy(0, i, 1, j, n), -12);
  }

  private static void copyRefusals() {
    SecondSunrise x = new SecondSunrise();
    c.due("null", x.copy(0, 0, 1, 0, 0), -11);
    fill(x, 0, 0, 5);
    c.due("null of t", x.copy(0, 0, 1, 0, 9), -11);
    c.due("null of s", x.copy(1, 0, 0, 0, 9), -11);
    c.due("copy(4, ..)", x.copy(4, 0, 0, 0, 0), -2);
    c.due("copy(-1, ..)", x.copy(-1, 0, 0, 0, 0), -2);
    c.due("t 4", x.copy(1, 0, 4, 0, 0), -2);
    c.due("t -1", x.copy(1, 0, -1, 0, 0), -2);
    fill(x, 1, 1, 3);
    c.due("store goes ahead of index", x.copy(0, 9, 1, 0, 1), -14);
    c.due("finding 4", x.count(8), 4);
    fill(x, 1, 0, 3);
    copyRefused(x, -1, 0, 1);
    copyRefused(x, 0, -1, 1);
    copyRefused(x, 0, 0, -1);
    copyRefused(x, 0, 0, 4);
    copyRefused(x, 3, 0, 3);
    copyRefused(x, 0, 1, 3);
    copyRefused(x, 6, 0, 0);
    copyRefused(x, 0, 4, 0);
    copyRefused(x, Integer.MAX_VALUE, 0, 1);
    copyRefused(x, 1, 1, Integer.MAX_VALUE);
    copyRefused(x, LEAST, 0, LEAST);
    c.due("finding 2", x.count(8), 2);
    items(x, 0, 0, 1, 2, 3, 4, 5);
    items(x, 1, 0, 1, 2, 3);
  }

  private static void writing() {
    SecondSunrise x = Check.dozen();
    int[] lights = {1, 2, 0, 1, 3, 0, 0, 3, 1, 0, 2, 1};
    c.due("null", x.write(0, 0), -11);
    c.due("bad goes ahead", x.write(-1, 0), -2);
    c.due("hour 1000000001", x.write(1000000001, 0), -2);
    c.due("sheet 4", x.write(0, 4), -2);
    c.due("sheet -1", x.write(0, -1), -2);
    for (int form = 0; form < 3; form++) {
      fill(x, form, form, 48);
      c.due("write", x.write(1000000000 - form, form), 48);
      for (int i = 0; i < 48; i++) {
        c.due("written", x.get(form, form, i), lights[(1000000000 - form + i) % 12]);
      }
    }
    x.sheet(3, 0, 0);
    c.due("no items", x.write(0, 3), 0);
  }

  private static void counting() {
    SecondSunrise x = new SecondSunrise();
    Check.type(x, 0, "n.rb..d");
    Check.type(x, 1, "07;10");
    x.worth(3, 99);
    x.sun(0, 0, 6);
    x.sun(1, 0, 4);
    x.copy(0, 0, 0, 0, 0);
    int[] want = {7, 5, 7, 4, 2, 17, 12, 149, 1};
    for (int i = 0; i < 9; i++) c.due("count(" + i + ")", x.count(i), want[i]);
    c.due("count(9)", x.count(9), -2);
    c.due("count(-1)", x.count(-1), -2);
    x.type(0, 'x');
    x.type(1, ';');
    int[] faulty = {8, 6, 0, 0, 0, 0, 12, 149, 1};
    for (int i = 0; i < 9; i++) c.due("count(" + i + ") with faults", x.count(i), faulty[i]);
  }
}
