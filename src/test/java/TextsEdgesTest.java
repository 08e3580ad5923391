/** The sentences of "Terms" on texts, and promises 3 to 6, at their edges. */
public final class TextsEdgesTest {
  private static final Sentences s = new Sentences("TextsEdgesTest");
  private static final String SIX = "01;10;99;50;09;90";

  public static void main(String[] args) {
    s.says("THE DIARY (text 0) is a text of up to 60 bytes", () -> upTo(0, 60));
    s.says("letters of HOURS 0 on: n, r, b, d (LIGHT 0, 1, 2, 3), or . (nobody looked)", TextsEdgesTest::letters);
    s.says("THE CALENDAR (text 1) is one of up to 20 bytes", () -> upTo(1, 20));
    s.says("two figures for each", TextsEdgesTest::figures);
    s.says("6 MONTHS at most", TextsEdgesTest::sixMonths);
    s.says("with ; between them", TextsEdgesTest::between);
    s.says("how many hours a MONTH is long (01 to 99)", TextsEdgesTest::lengths);
    s.says("the place of the first byte with which it cannot go on", TextsEdgesTest::firstByte);
    s.says("an empty one is well", TextsEdgesTest::emptyOnes);
    s.says("of one that is not ended, its end", TextsEdgesTest::notEnded);
    s.says("of the second figure of 00", TextsEdgesTest::noughts);
    s.says("or of the first byte of a seventh", TextsEdgesTest::seventh);
    s.says("With a FAULT it is as if it was empty.", TextsEdgesTest::asIfEmpty);
    s.says("A byte (0 to 255) comes behind a text: how many. BAD; FULL.", TextsEdgesTest::type);
    s.says("A text is empty: how many bytes it had. BAD.", TextsEdgesTest::wipe);
    s.says("The last byte of a text is undone: how many are left. BAD; NOT: it is empty.", TextsEdgesTest::undo);
    s.says("The FAULT of a text; NONE. BAD.", TextsEdgesTest::fault);
    s.end();
  }

  private static Land filled(int text, int bytes) {
    Land x = Land.fresh();
    for (int i = 0; i < bytes; i++) x.ask("type", text, text == 0 ? 'n' : '1');
    return x;
  }

  private static void upTo(int text, int most) {
    Land x = Land.fresh();
    for (int i = 1; i <= most; i++) s.due(x, i, "type", text, '1');
    s.due(x, -4, "type", text, '1');
    s.due(x, -4, "type", text, '1');
    s.due(x, most, "count", text);
    s.due(x, most - 1, "undo", text);
    s.due(x, most, "type", text, '1');
    s.due(x, -4, "type", text, '1');
    s.due(x, most, "wipe", text);
    s.due(x, 1, "type", text, '1');
    s.due(x, 1, "type", 1 - text, '1');
    s.refused(() -> filled(text, most), -4, "type", text, 0);
    s.refused(() -> filled(text, most), -4, "type", text, 255);
    s.due(filled(text, most - 1), most, "type", text, '1');
  }

  private static void faultOf(int text, String bytes, int want) {
    Land x = Land.fresh().text(text, bytes);
    s.due(x, want, "fault", text);
    s.due(x, bytes.length(), "count", text);
  }

  private static void letters() {
    for (int b = 0; b < 256; b++) {
      int want = "nrbd.".indexOf(b) >= 0 ? -1 : 0;
      faultOf(0, "" + (char) b, want);
      faultOf(0, "nrbd." + (char) b, want == 0 ? 5 : -1);
    }
    String letters = "nrbd";
    int[][] ups = {{0, 0}, {2, 0}, {0, 2}, {2, 2}};
    for (int seen = 0; seen < 4; seen++) {
      for (int light = 0; light < 4; light++) {
        Land x = Land.fresh().suns(2, 0, ups[light][0], 2, 0, ups[light][1]).text(0, "" + letters.charAt(seen));
        s.due(x, seen == light ? 4 : 0, "fits", 0);
      }
    }
    s.due(Land.fresh().suns(2, 0, 1, 2, 0, 1).text(0, "."), 4, "fits", 0);
    s.due(Land.fresh().suns(40, 0, 1, 40, 0, 1).text(0, "d"), 0, "fits", 1);
    s.due(Land.fresh().suns(40, 0, 1, 40, 0, 1).text(0, ".d"), 1599, "fits", 1);
    Land x = Land.fresh().text(0, "n.r.bd.");
    s.due(x, 7, "count", 2);
    s.due(x, 4, "count", 3);
  }

  private static boolean isFigure(int b) { return b >= '0' && b <= '9'; }

  private static void figures() {
    for (int b = 0; b < 256; b++) {
      String one = "" + (char) b;
      faultOf(1, one, isFigure(b) ? 1 : 0);
      faultOf(1, "1" + one, isFigure(b) ? -1 : 1);
      faultOf(1, "12;" + one, isFigure(b) ? 4 : 3);
      faultOf(1, "12;3" + one, isFigure(b) ? -1 : 4);
    }
    faultOf(1, "123", 2);
    faultOf(1, "1;2", 1);
    faultOf(1, "12;3;", 4);
    faultOf(1, "12;345", 5);
  }

  private static void sixMonths() {
    Land x = Land.fresh().text(1, SIX);
    s.due(x, -1, "fault", 1);
    s.due(x, 6, "count", 4);
    s.due(x, 90, "month", 5);
    s.due(x, -2, "month", 6);
    x.with("type", 1, ';').with("type", 1, '0').with("type", 1, '1');
    s.due(x, 18, "fault", 1);
    s.due(x, 0, "count", 4);
    s.due(x, -2, "month", 0);
    Land five = Land.fresh().text(1, SIX.substring(0, 14));
    s.due(five, -1, "fault", 1);
    s.due(five, 5, "count", 4);
    s.due(five, -2, "month", 5);
  }

  private static void between() {
    for (int b = 0; b < 256; b++) {
      faultOf(1, "12" + (char) b, b == ';' ? 3 : 2);
      faultOf(1, "12" + (char) b + "34", b == ';' ? -1 : 2);
      faultOf(1, SIX.substring(0, 14) + (char) b + "34", b == ';' ? -1 : 14);
    }
    faultOf(1, ";12", 0);
    faultOf(1, "12;;34", 3);
  }

  private static void lengths() {
    for (int length = 0; length <= 99; length++) {
      Land x = Land.fresh().text(1, "" + length / 10 + length % 10);
      s.due(x, length == 0 ? 1 : -1, "fault", 1);
      s.due(x, length == 0 ? -2 : length, "month", 0);
      s.due(x, length, "count", 5);
    }
  }

  private static void firstByte() {
    faultOf(0, "xnx", 0);
    faultOf(0, "nxx", 1);
    faultOf(0, "n".repeat(59) + "x", 59);
    faultOf(0, "n".repeat(58) + "xx", 58);
    faultOf(0, "n".repeat(60), -1);
    faultOf(1, "x0;00", 0);
    faultOf(1, "0x;00", 1);
    faultOf(1, "01x00", 2);
    faultOf(1, "01;x0", 3);
    faultOf(1, "x" + "1".repeat(19), 0);
    faultOf(1, SIX + "x;1", 17);
    Land x = Land.fresh().text(0, "nx.");
    s.due(x, 1, "fault", 0);
    s.due(x.with("undo", 0), 1, "fault", 0);
    s.due(x.with("undo", 0), -1, "fault", 0);
  }

  private static void emptyOnes() {
    for (int text = 0; text < 2; text++) {
      s.due(Land.fresh(), -1, "fault", text);
      s.due(Land.fresh().with("type", text, 'x').with("wipe", text), -1, "fault", text);
      s.due(Land.fresh().with("type", text, 'x').with("undo", text), -1, "fault", text);
    }
  }

  private static void notEnded() {
    for (int length = 1; length <= 18; length++) {
      String bytes = (SIX + ";").substring(0, length);
      faultOf(1, bytes, length % 3 == 2 ? -1 : length);
    }
    faultOf(1, "0", 1);
    faultOf(0, "n", -1);
    faultOf(0, "......", -1);
  }

  private static void noughts() {
    for (int month = 0; month < 6; month++) {
      String ahead = SIX.substring(0, 3 * month);
      faultOf(1, ahead + "00", 3 * month + 1);
      faultOf(1, ahead + "0", 3 * month + 1);
      faultOf(1, ahead + "01", -1);
      faultOf(1, ahead + "10", -1);
    }
    faultOf(1, "00;00;00", 1);
    faultOf(1, "00x", 1);
  }

  private static void seventh() {
    faultOf(1, SIX + ";", 18);
    for (int b = 0; b < 256; b++) faultOf(1, SIX + ";" + (char) b, 18);
    faultOf(1, SIX + ";01", 18);
    faultOf(1, SIX + ";00", 18);
    faultOf(1, SIX, -1);
  }

  private static void asIfEmpty() {
    Land x = Land.fresh().suns(4, 1, 2, 3, 2, 1).text(0, "rbnrdn").text(1, "03;04");
    s.dueOf(x, "count", new int[0], 6, 5, 6, 6, 2, 7);
    s.dueOf(x, "fits", new int[0], 1, 42);
    s.dueOf(x, "watch", new int[0], 6, 1);
    x.with("type", 0, 'x').with("type", 1, ';');
    s.dueOf(x, "count", new int[0], 7, 6, 0, 0, 0, 0);
    s.dueOf(x, "fits", new int[0], 12, 0);
    s.dueOf(x, "watch", new int[0], 0, 4);
    s.due(x, -2, "month", 0);
    s.due(x, -3, "drift", 0, 1);
    x.with("undo", 0).with("undo", 1);
    s.dueOf(x, "count", new int[0], 6, 5, 6, 6, 2, 7);
    s.dueOf(x, "fits", new int[0], 1, 42);
    s.due(x, 4, "month", 1);
  }

  private static void type() {
    s.within(Land::lived, 0, 0, 1, "type", 0, 'n');
    s.within(Land::lived, 1, 0, 255, "type", 0, 0);
    s.within(Land::lived, 1, 0, 255, "type", 1, 0);
    for (int text = 0; text < 2; text++) {
      int one = text;
      int most = text == 0 ? 60 : 20;
      s.due(Land.fresh(), 1, "type", text, 0);
      s.due(Land.fresh(), 1, "type", text, 255);
      s.refused(() -> filled(one, most), -2, "type", text, 256);
      s.refused(() -> filled(one, most), -2, "type", text, -1);
      s.refused(() -> filled(one, most), -4, "type", text, 255);
    }
    s.refused(() -> filled(0, 60), -2, "type", 2, 0);
    s.refused(() -> filled(0, 60), -2, "type", -1, 0);
  }

  private static void wipe() {
    s.within(Land::lived, 0, 0, 1, "wipe", 0);
    s.due(Land.fresh(), 0, "wipe", 0);
    s.due(Land.fresh(), 0, "wipe", 1);
    s.due(filled(0, 60), 60, "wipe", 0);
    s.due(filled(1, 20), 20, "wipe", 1);
    Land x = Land.fresh().text(0, "nr").text(1, "123");
    s.due(x, 2, "wipe", 0);
    s.due(x, 0, "wipe", 0);
    s.due(x, 3, "count", 1);
    s.due(x, 3, "wipe", 1);
    s.due(x, 0, "count", 1);
    s.due(x, 1, "type", 0, 'd');
    s.due(x, 1, "count", 3);
  }

  private static void undo() {
    s.within(Land::lived, 0, 0, 1, "undo", 0);
    for (int text = 0; text < 2; text++) {
      s.refused(Land::fresh, -3, "undo", text);
      Land x = Land.fresh().with("type", text, '1').with("type", text, '2');
      s.due(x, 1, "undo", text);
      s.due(x, 0, "undo", text);
      s.due(x, -3, "undo", text);
      s.due(x, 0, "count", text);
      s.due(x, 1, "type", text, '1');
    }
    s.due(filled(0, 60), 59, "undo", 0);
    s.due(filled(1, 20), 19, "undo", 1);
    Land other = Land.fresh().text(0, "n");
    s.due(other, -3, "undo", 1);
    s.due(other, 0, "undo", 0);
    Land last = Land.fresh().text(1, "12;34").with("undo", 1).with("type", 1, '9');
    s.due(last, 39, "month", 1);
    s.isBad(Land::fresh, "undo", 2);
    s.isBad(Land::fresh, "undo", -1);
  }

  private static void fault() {
    s.within(Land::lived, 0, 0, 1, "fault", 0);
    s.due(Land.lived(), -1, "fault", 0);
    s.due(Land.lived(), -1, "fault", 1);
    s.due(filled(0, 60), -1, "fault", 0);
    s.due(filled(1, 20), 2, "fault", 1);
  }
}
