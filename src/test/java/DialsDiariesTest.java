/** Promises 19 to 21: dials, fits, watch. */
public final class DialsDiariesTest {
  private static final Check c = new Check("DialsDiariesTest");

  public static void main(String[] args) {
    dialsShow();
    diariesFit();
    hoursToWatch();
    c.end();
  }

  private static void dials(SecondSunrise x, int red, int blue, int hours, int first) {
    c.due("dials(" + red + ", " + blue + ", 0)", x.dials(red, blue, 0), hours);
    c.due("dials(" + red + ", " + blue + ", 1)", x.dials(red, blue, 1), first);
  }

  private static void dialsShow() {
    SecondSunrise x = Check.dozen();
    dials(x, -1, -1, 4, 2);
    dials(x, 0, -1, 2, 3);
    dials(x, 1, -1, 2, 0);
    dials(x, 0, 0, 1, 7);
    dials(x, 1, 0, 1, 4);
    dials(x, -1, 0, 2, 1);
    dials(x, 2, 0, 0, -1);
    dials(x, 0, 1, 0, -1);
    dials(x, 39, 39, 0, -1);
    int[][] bad = {{-2, 0, 0}, {40, 0, 0}, {0, -2, 0}, {0, 40, 0}, {0, 0, -1}, {0, 0, 2}};
    for (int[] b : bad) c.due("bad dials", x.dials(b[0], b[1], b[2]), -2);
  }

  private static void fits(SecondSunrise x, String diary, int many, int first) {
    Check.retype(x, 0, diary);
    c.due("fits(0) of '" + diary + "'", x.fits(0), many);
    c.due("fits(1) of '" + diary + "'", x.fits(1), first);
  }

  private static void diariesFit() {
    SecondSunrise x = Check.dozen();
    fits(x, "", 12, 0);
    fits(x, "....", 12, 0);
    fits(x, "rbnrdn", 1, 42);
    fits(x, "d", 2, 0);
    fits(x, "n", 4, 81);
    fits(x, ".d", 2, 2);
    fits(x, "r", 4, 1);
    fits(x, "b", 2, 80);
    fits(x, "dx", 12, 0);
    fits(x, "nnnn", 0, -1);
    fits(x, "d...d", 0, -1);
    Check.suns(x, 40, 7, 40, 40, 9, 0);
    fits(x, "rrr", 1600, 0);
    fits(x, "rbr", 0, -1);
    Check.suns(x, 40, 7, 1, 40, 9, 1);
    fits(x, "n.......................................n", 39 * 39, 41);
    fits(x, "..........d", 1, 40 * 30 + 30);
    c.due("fits(2)", x.fits(2), -2);
    c.due("fits(-1)", x.fits(-1), -2);
  }

  private static void watch(SecondSunrise x, String diary, int hour, int left) {
    Check.retype(x, 0, diary);
    c.due("watch(0) of '" + diary + "'", x.watch(0), hour);
    c.due("watch(1) of '" + diary + "'", x.watch(1), left);
  }

  private static void hoursToWatch() {
    SecondSunrise x = Check.dozen();
    watch(x, "", 0, 4);
    watch(x, "x", 0, 4);
    watch(x, "...", 3, 4);
    watch(x, "rbnrdn", 6, 1);
    watch(x, "d", 1, 1);
    watch(x, "n", 1, 1);
    watch(x, "nnnn", -3, -3);
    Check.suns(x, 6, 0, 1, 6, 0, 6);
    watch(x, "d", 1, 6);
    watch(x, "b", 1, 24);
    watch(x, "b.....", 7, 24);
    Check.suns(x, 8, 0, 5, 13, 0, 6);
    watch(x, "", 0, 35);
    watch(x, "nnnn", -3, -3);
    c.due("bad goes ahead", x.watch(2), -2);
    c.due("watch(-1)", x.watch(-1), -2);
  }
}
