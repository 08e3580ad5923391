import java.util.function.Supplier;

/** The sentences of "Terms" on sheets and findings, and promises 30 to 36, at their edges. */
public final class SheetsEdgesTest {
  private static final Sentences s = new Sentences("SheetsEdgesTest");
  private static final int LAST = Land.LAST_HOUR;
  private static final int LEAST = Integer.MIN_VALUE;
  private static final int GREATEST = Integer.MAX_VALUE;

  public static void main(String[] args) {
    s.says("SHEETS 0 .. 3 are LOST (at first)", SheetsEdgesTest::lostAtFirst);
    s.says("or a row of a FORM: 0 bytes, 1 shorts, 2 ints", SheetsEdgesTest::forms);
    s.says("of 0 to 48 items (0 at first).", SheetsEdgesTest::items);
    s.says("FINDINGS (answers -10 less the number; they change nothing but count() 8)", SheetsEdgesTest::findings);
    s.says("1 NULL: the SHEET is LOST", SheetsEdgesTest::nulls);
    s.says("2 INDEX: there is no such item", SheetsEdgesTest::indexes);
    s.says("3 CAST: it has another FORM", SheetsEdgesTest::casts);
    s.says("4 STORE: unlike FORMS", SheetsEdgesTest::stores);
    s.says("5 SIZE: below 0.", SheetsEdgesTest::sizes);
    s.says("A SHEET is a new row of a FORM with n items: n. BAD: SHEET, FORM, above 48; SIZE.", SheetsEdgesTest::sheet);
    s.says("It is LOST: how many items it had. BAD; NULL.", SheetsEdgesTest::lose);
    s.says("Item i, treated as of a FORM, becomes v (the lowest bits that it has): 1.", SheetsEdgesTest::put);
    s.says("BAD; NULL; CAST; INDEX.", SheetsEdgesTest::putRefusals);
    s.says("Item i of it. BAD: the least int; so are NULL, CAST, INDEX (count() 8 tells).", SheetsEdgesTest::get);
    s.says("n items of SHEET s, from i on, come to SHEET t (perhaps s, as they were), from j on: 1.", SheetsEdgesTest::copy);
    s.says("BAD: the SHEETS; NULL: s, t; STORE; INDEX: below 0, not so many.", SheetsEdgesTest::copyRefusals);
    s.says("LIGHTS of hours from one on come to a SHEET from item 0 on, as many as there are items: how many. BAD; NULL.", SheetsEdgesTest::write);
    s.says("0, 1 bytes of texts, 2 hours of THE DIARY, 3 of these in which somebody looked, 4 MONTHS, 5 hours of all MONTHS", SheetsEdgesTest::countTexts);
    s.says("6 the ROUND, 7 all WORTHS, 8 the number of the latest FINDING (0 before any). BAD.", SheetsEdgesTest::countOthers);
    s.end();
  }

  private static void lostAtFirst() {
    for (int sheet = 0; sheet < 4; sheet++) {
      s.found(Land::fresh, 1, "lose", sheet);
      for (int form = 0; form < 3; form++) s.found(Land::fresh, 1, "get", sheet, form, 0);
      Land x = Land.fresh().with("sheet", sheet, 0, 0);
      s.due(x, -11, "lose", (sheet + 1) % 4);
      s.due(x, 0, "lose", sheet);
    }
    s.within(Land::lived, 0, 0, 3, "sheet", 0, 0, 0);
    s.within(Land::lived, 0, 0, 3, "lose", 0);
    s.within(Land::lived, 0, 0, 3, "put", 0, 0, 0, 0);
    s.within(() -> allOf(0), 0, 0, 3, "get", 0, 0, 0);
    s.within(Land::lived, 0, 0, 3, "copy", 0, 0, 0, 0, 0);
    s.within(Land::lived, 2, 0, 3, "copy", 0, 0, 0, 0, 0);
    s.within(Land::lived, 1, 0, 3, "write", 0, 0);
  }

  /** All sheets are of a form, with two items. */
  private static Land allOf(int form) {
    Land x = Land.fresh();
    for (int sheet = 0; sheet < 4; sheet++) x.sheet(sheet, form, 5 + sheet, -6);
    return x;
  }

  private static void kept(int form, int v, int want) {
    Land x = Land.fresh().with("sheet", 2, form, 3);
    s.due(x, 1, "put", 2, form, 1, v);
    s.due(x, want, "get", 2, form, 1);
    s.due(x, 0, "get", 2, form, 0);
    s.due(x, 0, "get", 2, form, 2);
  }

  private static void forms() {
    int[] least = {-128, -32768, LEAST + 1};
    int[] most = {127, 32767, GREATEST};
    for (int form = 0; form < 3; form++) {
      kept(form, least[form], least[form]);
      kept(form, most[form], most[form]);
    }
    int[] wrong = {-1, 3, LEAST, GREATEST};
    for (int form : wrong) {
      s.isBad(Land::lived, "sheet", 0, form, 0);
      s.isBad(Land::lived, "put", 0, form, 0, 1);
      s.isBad(Land::lived, "get", 0, form, 0);
    }
  }

  private static void items() {
    for (int form = 0; form < 3; form++) {
      for (int n = 0; n <= 48; n += 48) {
        Land x = Land.fresh();
        s.due(x, n, "sheet", 1, form, n);
        for (int i = 0; i < n; i++) s.due(x, 0, "get", 1, form, i);
        s.due(x, LEAST, "get", 1, form, n);
        s.due(x, 2, "count", 8);
        s.due(x, n, "lose", 1);
      }
      s.isBad(Land::lived, "sheet", 1, form, 49);
      s.isBad(Land::lived, "sheet", 1, form, GREATEST);
      Land anew = Land.fresh().sheet(1, form, 5, 6, 7);
      s.due(anew, 3, "sheet", 1, form, 3);
      for (int i = 0; i < 3; i++) s.due(anew, 0, "get", 1, form, i);
      anew.with("put", 1, form, 2, 9).with("sheet", 1, form, 2).with("sheet", 1, form, 3);
      s.due(anew, 0, "get", 1, form, 2);
      anew.with("put", 1, form, 2, 9).with("lose", 1).with("sheet", 1, form, 3);
      s.due(anew, 0, "get", 1, form, 2);
    }
  }

  private static void findings() {
    s.found(Land::lived, 1, "lose", 3);
    s.found(Land::lived, 2, "put", 0, 0, 3, 1);
    s.found(Land::lived, 3, "put", 0, 1, 0, 1);
    s.found(Land::lived, 4, "copy", 0, 0, 1, 0, 1);
    s.found(Land::lived, 5, "sheet", 0, 0, -1);
    Land x = Land.lived();
    s.due(x, 3, "count", 8);
    s.due(x, -15, "sheet", 0, 0, -1);
    s.due(x, 5, "count", 8);
    s.due(x, -14, "copy", 0, 0, 1, 0, 1);
    s.due(x, 4, "count", 8);
    s.due(x, -12, "put", 0, 0, 3, 1);
    s.due(x, 2, "count", 8);
    s.due(x, -11, "lose", 3);
    s.due(x, 1, "count", 8);
    s.due(x, -13, "put", 0, 1, 0, 1);
    s.due(x, 3, "count", 8);
  }

  private static void nulls() {
    s.found(Land::lived, 1, "read", 3, 0);
    s.found(Land::lived, 1, "lose", 3);
    s.found(Land::lived, 1, "put", 3, 0, 0, 1);
    s.found(Land::lived, 1, "get", 3, 0, 0);
    s.found(Land::lived, 1, "copy", 3, 0, 0, 0, 0);
    s.found(Land::lived, 1, "copy", 0, 0, 3, 0, 0);
    s.found(Land::lived, 1, "copy", 3, 0, 3, 0, 0);
    s.found(Land::lived, 1, "write", 0, 3);
    s.found(() -> Land.lived().with("lose", 0), 1, "write", 0, 0);
    Supplier<Land> none = () -> Land.lived().with("sheet", 3, 0, 0);
    s.due(none.get(), 0, "read", 3, 0);
    s.due(none.get(), 0, "lose", 3);
    s.due(none.get(), 0, "write", 0, 3);
    s.due(none.get(), 1, "copy", 3, 0, 3, 0, 0);
    s.found(none, 2, "put", 3, 0, 0, 1);
    s.found(none, 2, "get", 3, 0, 0);
  }

  private static Land one(int form, int n) {
    int[] items = new int[n];
    for (int i = 0; i < n; i++) items[i] = i + 1;
    return Land.fresh().sheet(2, form, items);
  }

  private static void indexes() {
    int[] sizes = {0, 1, 47, 48};
    for (int form = 0; form < 3; form++) {
      for (int n : sizes) {
        int f = form;
        int[] wrong = {-1, n, n + 1, 48, LEAST, GREATEST};
        for (int i : wrong) {
          s.found(() -> one(f, n), 2, "put", 2, form, i, 7);
          s.found(() -> one(f, n), 2, "get", 2, form, i);
        }
        if (n == 0) continue;
        s.due(one(form, n), 1, "put", 2, form, 0, 7);
        s.due(one(form, n), 1, "put", 2, form, n - 1, 7);
        s.due(one(form, n), 1, "get", 2, form, 0);
        s.due(one(form, n), n, "get", 2, form, n - 1);
      }
    }
  }

  private static void casts() {
    for (int form = 0; form < 3; form++) {
      for (int as = 0; as < 3; as++) {
        int f = form;
        Supplier<Land> made = () -> one(f, 2);
        if (form == as) {
          s.due(made.get(), 1, "put", 2, as, 1, 9);
          s.due(made.get(), 2, "get", 2, as, 1);
        } else {
          s.found(made, 3, "put", 2, as, 1, 9);
          s.found(made, 3, "get", 2, as, 1);
          s.found(made, 3, "put", 2, as, 2, 9);
          s.found(made, 3, "get", 2, as, -1);
        }
      }
    }
  }

  private static void stores() {
    for (int from = 0; from < 3; from++) {
      for (int to = 0; to < 3; to++) {
        int f = from;
        int t = to;
        Supplier<Land> made = () -> Land.fresh().sheet(0, f, 1, 2).sheet(1, t, 3, 4);
        if (from == to) {
          s.due(made.get(), 1, "copy", 0, 0, 1, 0, 2);
        } else {
          s.found(made, 4, "copy", 0, 0, 1, 0, 2);
          s.found(made, 4, "copy", 0, 0, 1, 0, 0);
          s.found(made, 4, "copy", 0, -1, 1, 0, 1);
          s.found(made, 4, "copy", 0, 0, 1, 0, 3);
        }
      }
    }
  }

  private static void sizes() {
    for (int form = 0; form < 3; form++) {
      s.found(Land::lived, 5, "sheet", 0, form, -1);
      s.found(Land::lived, 5, "sheet", 3, form, LEAST);
      s.due(Land.lived(), 0, "sheet", 0, form, 0);
    }
  }

  private static void sheet() {
    s.within(Land::lived, 1, 0, 2, "sheet", 0, 0, 3);
    s.isBad(Land::lived, "sheet", 4, 0, 0);
    s.isBad(Land::lived, "sheet", -1, 0, 0);
    s.isBad(Land::lived, "sheet", 4, 0, -1);
    s.isBad(Land::lived, "sheet", -1, 0, -1);
    s.isBad(Land::lived, "sheet", 0, 3, -1);
    s.isBad(Land::lived, "sheet", 0, -1, -1);
    s.isBad(Land::lived, "sheet", 0, 0, 49);
    Land x = Land.lived();
    s.due(x, 48, "sheet", 0, 2, 48);
    s.due(x, 1, "put", 0, 2, 47, LEAST + 1);
    s.due(x, LEAST + 1, "get", 0, 2, 47);
    s.due(x, 300, "get", 1, 1, 0);
    s.due(x, 1, "sheet", 0, 0, 1);
    s.due(x, 0, "get", 0, 0, 0);
    s.due(x, -13, "put", 0, 2, 0, 1);
    s.due(x, 1, "lose", 0);
  }

  private static void lose() {
    int[] sizes = {0, 1, 48};
    for (int sheet = 0; sheet < 4; sheet++) {
      for (int n : sizes) {
        Land x = Land.fresh().with("sheet", sheet, 1, n);
        s.due(x, n, "lose", sheet);
        s.due(x, -11, "lose", sheet);
        s.due(x, -11, "put", sheet, 1, 0, 0);
        s.due(x, n, "sheet", sheet, 1, n);
      }
    }
    s.isBad(Land::fresh, "lose", 4);
    s.isBad(Land::fresh, "lose", -1);
    s.due(Land.lived().with("lose", 0), 300, "get", 1, 1, 0);
  }

  private static void put() {
    int[][] bytes = {{128, -128}, {-129, 127}, {255, -1}, {256, 0}, {257, 1}, {-257, -1}, {LEAST, 0}, {GREATEST, -1}};
    for (int[] b : bytes) kept(0, b[0], b[1]);
    int[][] shorts = {{128, 128}, {32768, -32768}, {-32769, 32767}, {65535, -1}, {65536, 0}, {65537, 1}, {LEAST, 0}, {GREATEST, -1}};
    for (int[] b : shorts) kept(1, b[0], b[1]);
    int[][] ints = {{32768, 32768}, {-32769, -32769}, {65536, 65536}, {LEAST, LEAST}, {GREATEST, GREATEST}};
    for (int[] b : ints) kept(2, b[0], b[1]);
    Land x = Land.fresh().sheet(2, 2, LEAST);
    s.due(x, LEAST, "get", 2, 2, 0);
    s.due(x, 0, "count", 8);
  }

  private static void putRefusals() {
    s.within(() -> allOf(0), 0, 0, 3, "put", 0, 0, 0, 9);
    s.within(Land::lived, 1, 0, 2, "put", 2, 2, 0, 9);
    s.isBad(Land::lived, "put", 4, 0, 0, 9);
    s.isBad(Land::lived, "put", 3, 3, 99, 9);
    s.isBad(Land::lived, "put", 0, -1, -1, 9);
    s.found(Land::lived, 1, "put", 3, 2, -1, 9);
    s.found(Land::lived, 3, "put", 0, 2, 3, 9);
    s.found(Land::lived, 2, "put", 0, 0, 3, 9);
    s.due(Land.lived(), 1, "put", 0, 0, 2, 9);
  }

  private static void get() {
    s.within(() -> allOf(0), 0, 0, 3, "get", 0, 0, 1);
    int[] wrongForms = {-1, 3, LEAST, GREATEST};
    for (int form : wrongForms) s.refused(Land::lived, LEAST, "get", 3, form, 99);
    s.refused(Land::lived, LEAST, "get", 4, 0, 0);
    s.refused(Land::lived, LEAST, "get", -1, 0, 0);
    s.found(Land::lived, 1, "get", 3, 2, -1);
    s.found(Land::lived, 3, "get", 0, 2, 3);
    s.found(Land::lived, 2, "get", 0, 0, 3);
    s.found(Land::lived, 2, "get", 0, 0, -1);
    s.due(Land.lived(), 7, "get", 0, 0, 2);
    s.due(Land.lived().with("get", 0, 0, 2), 3, "count", 8);
  }

  private static Land five(int form) {
    return Land.fresh().sheet(0, form, 1, 2, 3, 4, 5).sheet(1, form, 9, 8, 7);
  }

  private static void holds(Land x, int sheet, int form, int... want) {
    for (int i = 0; i < want.length; i++) s.due(x, want[i], "get", sheet, form, i);
    s.due(x, want.length, "lose", sheet);
  }

  private static void copied(int form, int[] call, int sheet, int... want) {
    Land x = five(form);
    s.due(x, 1, "copy", call);
    holds(x, sheet, form, want);
    s.due(x, 0, "count", 8);
  }

  private static void copy() {
    for (int form = 0; form < 3; form++) {
      copied(form, new int[] {0, 0, 1, 0, 3}, 1, 1, 2, 3);
      copied(form, new int[] {0, 2, 1, 0, 3}, 1, 3, 4, 5);
      copied(form, new int[] {0, 4, 1, 2, 1}, 1, 9, 8, 5);
      copied(form, new int[] {0, 4, 1, 2, 1}, 0, 1, 2, 3, 4, 5);
      copied(form, new int[] {0, 0, 1, 0, 0}, 1, 9, 8, 7);
      copied(form, new int[] {0, 5, 1, 3, 0}, 1, 9, 8, 7);
      copied(form, new int[] {0, 0, 0, 0, 5}, 0, 1, 2, 3, 4, 5);
      copied(form, new int[] {0, 0, 0, 1, 4}, 0, 1, 1, 2, 3, 4);
      copied(form, new int[] {0, 1, 0, 0, 4}, 0, 2, 3, 4, 5, 5);
      copied(form, new int[] {0, 0, 0, 2, 3}, 0, 1, 2, 1, 2, 3);
      copied(form, new int[] {0, 2, 0, 0, 3}, 0, 3, 4, 5, 4, 5);
      copied(form, new int[] {1, 0, 0, 2, 3}, 0, 1, 2, 9, 8, 7);
    }
    Land full = Land.fresh().with("sheet", 0, 2, 48).with("sheet", 1, 2, 48).with("put", 0, 2, 47, 77);
    s.due(full, 1, "copy", 0, 0, 1, 0, 48);
    s.due(full, 77, "get", 1, 2, 47);
    s.due(full, 1, "copy", 0, 47, 1, 0, 1);
    s.due(full, 77, "get", 1, 2, 0);
  }

  private static void copyRefusals() {
    int[][] indexes = {{-1, 0, 1}, {0, -1, 1}, {0, 0, -1}, {0, 0, 4}, {3, 0, 3}, {0, 1, 3}, {6, 0, 0}, {0, 4, 0},
      {5, 0, 1}, {0, 3, 1}, {-1, 0, 0}, {0, -1, 0}, {5, 3, -1}, {1, 1, GREATEST}, {GREATEST, 0, 1}, {0, GREATEST, 1},
      {GREATEST, GREATEST, GREATEST}, {LEAST, 0, 1}, {0, LEAST, 1}, {0, 0, LEAST}, {LEAST, LEAST, LEAST}, {1, 0, 48}};
    for (int[] c : indexes) s.found(() -> five(1), 2, "copy", 0, c[0], 1, c[1], c[2]);
    s.found(() -> five(2), 2, "copy", 0, 0, 0, 1, 5);
    s.found(() -> five(2), 2, "copy", 0, 1, 0, 0, 5);
    int[] wrong = {-1, 4, LEAST, GREATEST};
    for (int sheet : wrong) {
      s.isBad(() -> five(0), "copy", sheet, 0, 0, 0, 0);
      s.isBad(() -> five(0), "copy", 0, 0, sheet, 0, 0);
      s.isBad(() -> five(0), "copy", 3, 0, sheet, -1, 0);
      s.isBad(() -> five(0), "copy", sheet, -1, 3, 0, -1);
    }
    s.found(() -> five(0), 1, "copy", 3, -1, 0, 0, 9);
    s.found(() -> five(0), 1, "copy", 0, -1, 3, 0, 9);
    s.found(() -> five(0).with("sheet", 2, 1, 5), 4, "copy", 0, -1, 2, 0, 1);
    s.found(() -> five(0).with("sheet", 2, 1, 5), 4, "copy", 2, 0, 0, 0, 9);
    s.due(five(0), 1, "copy", 0, 2, 1, 0, 3);
  }

  /** Lights from hour 0 on: 1 2 0 1 3 0 0 3 1 0 2 1, and again; the last hour of all is the fifth of these. */
  private static Land dozen() { return Land.fresh().suns(4, 1, 2, 3, 2, 1); }

  private static void written(int hour, int form, int... want) {
    Land x = dozen().with("sheet", 0, form, want.length).with("sheet", 1, form, 1).with("put", 1, form, 0, 9);
    for (int i = 0; i < want.length; i++) x.with("put", 0, form, i, -9);
    s.due(x, want.length, "write", hour, 0);
    holds(x, 0, form, want);
    holds(x, 1, form, 9);
    s.due(x, 0, "count", 8);
  }

  private static void write() {
    for (int form = 0; form < 3; form++) {
      written(0, form);
      written(0, form, 1);
      written(10, form, 2, 1, 1, 2);
      written(LAST, form, 3, 0, 0, 3, 1, 0, 2, 1);
      written(LAST - 1, form, 1, 3, 0);
      Land full = dozen().with("sheet", 0, form, 48);
      s.due(full, 48, "write", 1, 0);
      s.due(full, 2, "get", 0, form, 0);
      s.due(full, 1, "get", 0, form, 47);
    }
    s.within(Land::lived, 0, 0, LAST, "write", 0, 0);
    s.isBad(Land::lived, "write", -1, 3);
    s.isBad(Land::lived, "write", LAST + 1, 3);
    s.isBad(Land::lived, "write", 0, 4);
    s.isBad(Land::lived, "write", 0, -1);
    s.found(Land::lived, 1, "write", 0, 3);
    s.found(Land::fresh, 1, "write", LAST, 0);
  }

  private static void counts(Land x, long... want) {
    s.dueOf(x, "count", new int[0], want);
  }

  private static void countTexts() {
    counts(Land.fresh(), 0, 0, 0, 0, 0, 0);
    counts(Land.fresh().text(0, ".".repeat(60)).text(1, "99;99;99;99;99;99"), 60, 17, 60, 0, 6, 594);
    counts(Land.fresh().text(0, "n".repeat(60)).text(1, "01"), 60, 2, 60, 60, 1, 1);
    counts(Land.fresh().text(0, "n.rb..d").text(1, "07;10"), 7, 5, 7, 4, 2, 17);
    counts(Land.fresh().text(0, "n.rb..dx").text(1, "07;1"), 8, 4, 0, 0, 0, 0);
    counts(Land.fresh().text(0, "x".repeat(60)).text(1, "1".repeat(20)), 60, 20, 0, 0, 0, 0);
    counts(Land.fresh().text(0, "n.r").text(1, "07").with("wipe", 0).with("undo", 1), 0, 1, 0, 0, 0, 0);
  }

  private static void countOthers() {
    s.due(Land.fresh(), 104, "count", 6);
    s.due(Land.fresh(), 60, "count", 7);
    s.due(Land.fresh(), 0, "count", 8);
    s.due(Land.fresh().suns(2, 0, 0, 2, 0, 0), 2, "count", 6);
    s.due(Land.fresh().suns(40, 0, 0, 39, 0, 0), 1560, "count", 6);
    s.due(Land.fresh().with("worth", 0, 0).with("worth", 5, 99), 139, "count", 7);
    s.due(Land.fresh().with("worth", 0, 100).with("undo", 0).with("get", 4, 0, 0), 0, "count", 8);
    s.due(Land.fresh().with("lose", 3).with("sheet", 0, 0, 1).with("get", 0, 0, 0), 1, "count", 8);
    s.due(Land.fresh().with("lose", 3).with("undo", 0).with("lose", 4), 1, "count", 8);
    s.within(Land::lived, 0, 0, 8, "count", 0);
  }
}
