/** Compares answers with what is due, tells those that are not, and ends the test. */
final class Check {
  private final String test;
  private int asked = 0;
  private int wrong = 0;

  Check(String test) { this.test = test; }

  void due(String call, long got, long want) {
    asked++;
    if (got != want) tell(call + " answered " + got + ", due is " + want);
  }

  void that(String what, boolean holds) {
    asked++;
    if (!holds) tell(what);
  }

  int wrong() { return wrong; }

  private void tell(String what) {
    wrong++;
    System.out.println(test + ": " + what);
  }

  static void type(SecondSunrise x, int text, String bytes) {
    for (int i = 0; i < bytes.length(); i++) x.type(text, bytes.charAt(i));
  }

  static void retype(SecondSunrise x, int text, String bytes) {
    x.wipe(text);
    type(x, text, bytes);
  }

  /** turn, phase and up of both suns. */
  static void suns(SecondSunrise x, int... v) {
    for (int i = 0; i < 6; i++) x.sun(i / 3, i % 3, v[i]);
  }

  /** Lights from hour 0 on: 1 2 0 1 3 0 0 3 1 0 2 1, and again. */
  static SecondSunrise dozen() {
    SecondSunrise x = new SecondSunrise();
    suns(x, 4, 1, 2, 3, 2, 1);
    return x;
  }

  void end() {
    System.out.println(asked + " answers, " + wrong + " not as due");
    if (wrong != 0 || asked == 0) System.exit(1);
  }
}
