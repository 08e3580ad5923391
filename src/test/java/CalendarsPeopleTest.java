/** Promises 14 to 18: month, drift, shortest, awake, together. */
public final class CalendarsPeopleTest {
  private static final Check c = new Check("CalendarsPeopleTest");

  public static void main(String[] args) {
    months();
    drifts();
    shortestOnes();
    awakeOnes();
    togetherHours();
    togetherStarts();
    c.end();
  }

  private static void months() {
    SecondSunrise x = new SecondSunrise();
    c.due("no calendar", x.month(0), -2);
    Check.type(x, 1, "01;99;40;07;08;10");
    int[] lengths = {1, 99, 40, 7, 8, 10};
    for (int i = 0; i < 6; i++) c.due("month(" + i + ")", x.month(i), lengths[i]);
    c.due("month(6)", x.month(6), -2);
    c.due("month(-1)", x.month(-1), -2);
    c.due("count(4)", x.count(4), 6);
    c.due("count(5)", x.count(5), 165);
    x.type(1, 'x');
    c.due("with a fault", x.month(0), -2);
    c.due("count(4) with a fault", x.count(4), 0);
    c.due("count(5) with a fault", x.count(5), 0);
    c.due("count(1) with a fault", x.count(1), 18);
  }

  private static void drifts() {
    SecondSunrise x = new SecondSunrise();
    c.due("no calendar", x.drift(0, 1), -3);
    c.due("bad goes ahead", x.drift(2, 1), -2);
    c.due("bad goes ahead", x.drift(0, 0), -2);
    Check.suns(x, 10, 0, 1, 10, 4, 10);
    Check.type(x, 1, "03");
    int[] red = {0, 3, 4, 4, 4, 5};
    for (int n = 1; n <= 6; n++) c.due("drift(0, " + n + ")", x.drift(0, n), red[n - 1]);
    c.due("drift(0, 60)", x.drift(0, 60), 5);
    c.due("the first beginning counts", x.drift(1, 1), 4);
    Check.retype(x, 1, "09;02;09");
    c.due("one", x.drift(0, 1), 0);
    c.due("two: 9", x.drift(0, 2), 1);
    c.due("three: 11", x.drift(0, 3), 1);
    c.due("four: 20", x.drift(0, 4), 1);
    c.due("again from the first on", x.drift(0, 60), 1);
    Check.retype(x, 1, "03;04;02");
    c.due("three: 7", x.drift(0, 3), 3);
    c.due("six: 16", x.drift(0, 6), 4);
    x.sun(0, 2, 0);
    c.due("up is 0", x.drift(0, 3), -3);
    c.due("bad goes ahead", x.drift(0, 61), -2);
    c.due("drift(-1, 1)", x.drift(-1, 1), -2);
    c.due("drift(0, -1)", x.drift(0, -1), -2);
    x.type(1, '1');
    c.due("with a fault", x.drift(1, 1), -3);
  }

  private static void shortest(SecondSunrise x, int most, int hours, int first, int second) {
    c.due("shortest(0, " + most + ", " + hours + ", 0)", x.shortest(0, most, hours, 0), first);
    c.due("shortest(0, " + most + ", " + hours + ", 1)", x.shortest(0, most, hours, 1), second);
  }

  private static void shortestOnes() {
    SecondSunrise x = new SecondSunrise();
    Check.suns(x, 40, 0, 5, 8, 0, 0);
    shortest(x, 20, 41, 41, 0);
    shortest(x, 19, 41, 1, 40);
    shortest(x, 12, 41, 1, 40);
    shortest(x, 11, 41, 29, 12);
    shortest(x, 10, 41, -1, -1);
    shortest(x, 0, 40, 40, 0);
    shortest(x, 0, 80, 80, 0);
    shortest(x, 20, 2, 2, 0);
    shortest(x, 0, 2, -1, -1);
    shortest(x, 16, 79, 39, 40);
    shortest(x, 10, 79, -1, -1);
    x.sun(0, 1, 5);
    shortest(x, 6, 79, 40, 39);
    x.sun(0, 1, 6);
    shortest(x, 6, 39, -1, -1);
    x.sun(0, 1, 28);
    shortest(x, 12, 2, 1, 1);
    shortest(x, 11, 2, -1, -1);
    c.due("up is 0", x.shortest(1, 0, 8, 0), -3);
    c.due("bad goes ahead", x.shortest(1, 21, 8, 0), -2);
    c.due("most -1", x.shortest(0, -1, 8, 0), -2);
    c.due("hours 1", x.shortest(0, 0, 1, 0), -2);
    c.due("hours 81", x.shortest(0, 0, 81, 0), -2);
    c.due("what 2", x.shortest(0, 0, 8, 2), -2);
    c.due("what -1", x.shortest(0, 0, 8, -1), -2);
    c.due("sun 2", x.shortest(2, 0, 8, 0), -2);
    c.due("sun -1", x.shortest(-1, 0, 8, 0), -2);
  }

  private static void awakeOnes() {
    SecondSunrise x = new SecondSunrise();
    for (int p = 0; p < 6; p++) {
      c.due("awake first", x.awake(p, p), 15);
      c.due("awake then", x.awake(p, 15), p);
    }
    c.due("awake(6, 0)", x.awake(6, 0), -2);
    c.due("awake(-1, 0)", x.awake(-1, 0), -2);
    c.due("awake(0, 16)", x.awake(0, 16), -2);
    c.due("awake(0, -1)", x.awake(0, -1), -2);
    c.due("refusals change nothing", x.awake(0, 0), 15);
  }

  private static SecondSunrise peopled() {
    SecondSunrise x = Check.dozen();
    x.awake(0, 1);
    x.awake(1, 3);
    x.awake(5, 8);
    return x;
  }

  private static void togetherHours() {
    SecondSunrise x = peopled();
    c.due("nobody", x.together(0, 3, 7, 0), 7);
    c.due("person 0", x.together(1, 0, 12, 0), 4);
    c.due("person 1", x.together(2, 0, 12, 0), 8);
    c.due("both", x.together(3, 0, 12, 0), 4);
    c.due("person 5", x.together(32, 4, 1, 0), 1);
    c.due("person 5", x.together(32, 5, 2, 0), 0);
    c.due("never", x.together(33, 0, 100, 0), 0);
    c.due("all six", x.together(63, 0, 100, 0), 0);
    c.due("100 hours", x.together(2, 0, 100, 0), 67);
    c.due("from the last hour on", x.together(1, 1000000000, 3, 0), 2);
    int[][] bad = {{-1, 0, 1, 0}, {64, 0, 1, 0}, {0, -1, 1, 0}, {0, 1000000001, 1, 0},
      {0, 0, 0, 0}, {0, 0, 101, 0}, {0, 0, 1, -1}, {0, 0, 1, 2}};
    for (int[] b : bad) c.due("bad together", x.together(b[0], b[1], b[2], b[3]), -2);
  }

  private static void togetherStarts() {
    SecondSunrise x = peopled();
    c.due("the told hour, if it is as great", x.together(0, 9, 5, 1), 9);
    c.due("person 0, 1 hour", x.together(1, 0, 1, 1), 2);
    c.due("person 0, 2 hours", x.together(1, 0, 2, 1), 5);
    c.due("person 0, 2 hours, from 6 on", x.together(1, 6, 2, 1), 17);
    c.due("person 5, 4 hours", x.together(32, 0, 4, 1), 4);
    c.due("person 5, 4 hours, from 5 on", x.together(32, 5, 4, 1), 16);
    c.due("never", x.together(33, 7, 100, 1), 7);
    c.due("a round of hours", x.together(1, 7, 12, 1), 7);
    c.due("from the last hour on", x.together(32, 1000000000, 4, 1), 1000000000);
    c.due("later than the last hour", x.together(1, 1000000000, 2, 1), 1000000001);
  }
}
