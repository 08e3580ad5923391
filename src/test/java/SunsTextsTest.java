/** Promises 1 to 6: a new object, sun, type, wipe, undo, fault. */
public final class SunsTextsTest {
  private static final Check c = new Check("SunsTextsTest");

  public static void main(String[] args) {
    newObject();
    sunsTold();
    turnCutsPhaseAndUp();
    typing();
    undoing();
    diaryFaults();
    calendarFaults();
    c.end();
  }

  private static void newObject() {
    SecondSunrise x = new SecondSunrise();
    int[] counts = {0, 0, 0, 0, 0, 0, 104, 60, 0};
    for (int i = 0; i < counts.length; i++) c.due("new count(" + i + ")", x.count(i), counts[i]);
    c.due("new fault(0)", x.fault(0), -1);
    c.due("new fault(1)", x.fault(1), -1);
    for (int s = 0; s < 4; s++) c.due("new lose(" + s + ")", x.lose(s), -11);
    for (int p = 0; p < 6; p++) {
      c.due("new awake", x.awake(p, 15), 15);
      c.due("new worth", x.worth(p, 10), 10);
    }
    for (int p = 0; p < 4; p++) {
      c.due("new plant", x.plant(p, 4), 4);
      int[] growth = {10, 11, 11, 12};
      for (int l = 0; l < 4; l++) c.due("new grows", x.grows(p, l, 0), growth[l]);
    }
  }

  private static void sunsTold() {
    SecondSunrise x = new SecondSunrise();
    int[] first = {8, 0, 5, 13, 0, 2};
    int[] then = {40, 39, 40, 2, 1, 0};
    for (int i = 0; i < 6; i++) c.due("sun first " + i, x.sun(i / 3, i % 3, then[i]), first[i]);
    c.due("red turn", x.sun(0, 0, 40), 40);
    c.due("red phase", x.sun(0, 1, 39), 39);
    c.due("red up", x.sun(0, 2, 40), 40);
    c.due("blue turn", x.sun(1, 0, 2), 2);
    c.due("blue phase", x.sun(1, 1, 1), 1);
    c.due("blue up", x.sun(1, 2, 0), 0);
    c.due("phase as great as turn", x.sun(1, 1, 2), -2);
    c.due("up above turn", x.sun(1, 2, 3), -2);
    c.due("up as great as turn", x.sun(1, 2, 2), 0);
    c.due("turn 1", x.sun(0, 0, 1), -2);
    c.due("turn 41", x.sun(0, 0, 41), -2);
    c.due("phase below 0", x.sun(0, 1, -1), -2);
    c.due("up below 0", x.sun(0, 2, -1), -2);
    c.due("sun 2", x.sun(2, 0, 5), -2);
    c.due("sun -1", x.sun(-1, 0, 5), -2);
    c.due("what 3", x.sun(0, 3, 5), -2);
    c.due("what -1", x.sun(0, -1, 5), -2);
    c.due("refusals change no turn", x.sun(0, 0, 40), 40);
    c.due("refusals change no phase", x.sun(0, 1, 39), 39);
    c.due("refusals change no up", x.sun(0, 2, 40), 40);
  }

  private static void turnCutsPhaseAndUp() {
    SecondSunrise x = new SecondSunrise();
    x.sun(1, 1, 12);
    c.due("turn 13 to 5", x.sun(1, 0, 5), 13);
    c.due("phase 12 modulo 5", x.sun(1, 1, 2), 2);
    c.due("up 6 cut to 5", x.sun(1, 2, 5), 5);
    c.due("turn 5 to 40", x.sun(1, 0, 40), 5);
    c.due("phase stays", x.sun(1, 1, 2), 2);
    c.due("up does not come back", x.sun(1, 2, 5), 5);
    c.due("red turn is as it was", x.sun(0, 0, 8), 8);
    c.due("red up is as it was", x.sun(0, 2, 5), 5);
  }

  private static void typing() {
    SecondSunrise x = new SecondSunrise();
    for (int i = 1; i <= 60; i++) c.due("type 0", x.type(0, i % 2 == 0 ? 0 : 255), i);
    c.due("type 0 full", x.type(0, 0), -4);
    c.due("bad byte goes ahead of full", x.type(0, 256), -2);
    for (int i = 1; i <= 20; i++) c.due("type 1", x.type(1, '1'), i);
    c.due("type 1 full", x.type(1, '1'), -4);
    c.due("count 0", x.count(0), 60);
    c.due("count 1", x.count(1), 20);
    c.due("byte below 0", x.type(1, -1), -2);
    c.due("text 2", x.type(2, 0), -2);
    c.due("text -1", x.type(-1, 0), -2);
    c.due("wipe 0", x.wipe(0), 60);
    c.due("wipe 0 again", x.wipe(0), 0);
    c.due("the other text stays", x.count(1), 20);
    c.due("wipe 1", x.wipe(1), 20);
    c.due("wipe 2", x.wipe(2), -2);
    c.due("wipe -1", x.wipe(-1), -2);
    c.due("type behind a wipe", x.type(0, 'n'), 1);
  }

  private static void undoing() {
    SecondSunrise x = new SecondSunrise();
    c.due("undo of an empty one", x.undo(0), -3);
    c.due("undo of an empty one", x.undo(1), -3);
    c.due("undo 2", x.undo(2), -2);
    c.due("undo -1", x.undo(-1), -2);
    Check.type(x, 0, "nrx");
    Check.type(x, 1, "01;");
    c.due("fault", x.fault(0), 2);
    c.due("undo 0", x.undo(0), 2);
    c.due("fault undone", x.fault(0), -1);
    c.due("undo 1", x.undo(1), 2);
    c.due("fault undone", x.fault(1), -1);
    c.due("undo 1", x.undo(1), 1);
    c.due("undo 1", x.undo(1), 0);
    c.due("undo 1", x.undo(1), -3);
  }

  private static void faultOf(int text, String bytes, int want) {
    SecondSunrise x = new SecondSunrise();
    Check.type(x, text, bytes);
    c.due("fault(" + text + ") of '" + bytes + "'", x.fault(text), want);
  }

  private static void diaryFaults() {
    faultOf(0, "", -1);
    faultOf(0, "nrbd.", -1);
    faultOf(0, ".", -1);
    faultOf(0, "nrbD", 3);
    faultOf(0, "x", 0);
    faultOf(0, "nn n", 2);
    faultOf(0, "xnx", 0);
    faultOf(0, "n" + (char) ('n' + 128), 1);
    SecondSunrise x = new SecondSunrise();
    c.due("fault(2)", x.fault(2), -2);
    c.due("fault(-1)", x.fault(-1), -2);
  }

  private static void calendarFaults() {
    String six = "01;10;99;50;09;90";
    faultOf(1, "", -1);
    faultOf(1, "01", -1);
    faultOf(1, "99", -1);
    faultOf(1, "10", -1);
    faultOf(1, six, -1);
    faultOf(1, "0", 1);
    faultOf(1, "00", 1);
    faultOf(1, "00;01", 1);
    faultOf(1, "01;00", 4);
    faultOf(1, "01;", 3);
    faultOf(1, "01;0", 4);
    faultOf(1, "01;;", 3);
    faultOf(1, ";", 0);
    faultOf(1, "1;", 1);
    faultOf(1, "011", 2);
    faultOf(1, "01:02", 2);
    faultOf(1, "0/", 1);
    faultOf(1, ":1", 0);
    faultOf(1, six + ";", 18);
    faultOf(1, six + ";1", 18);
    faultOf(1, six + ";12", 18);
    faultOf(1, six + ";x", 18);
    faultOf(1, six + "x", 17);
    faultOf(1, six + "1", 17);
    faultOf(1, "01;x;" + six, 3);
  }
}
