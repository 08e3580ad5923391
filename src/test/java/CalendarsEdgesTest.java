/** Promises 14 to 18 at their edges: month, drift, shortest, awake, together. */
public final class CalendarsEdgesTest {
  private static final Sentences s = new Sentences("CalendarsEdgesTest");
  private static final int LAST = Land.LAST_HOUR;

  public static void main(String[] args) {
    s.says("MONTHS of THE CALENDAR follow one another, from hour 0 on, and again from the first one on.", CalendarsEdgesTest::again);
    s.says("DRIFT from a SUN (with UP above 0)", CalendarsEdgesTest::upAboveNone);
    s.says("of n (1 to 60) MONTHS", CalendarsEdgesTest::sixty);
    s.says("of beginnings of MONTHS 0 to n less 1 the greatest", CalendarsEdgesTest::nLessOne);
    s.says("the nearest hour is away, ahead or behind (below 0, too), in which that SUN RISES", CalendarsEdgesTest::nearest);
    s.says("How long a MONTH of THE CALENDAR is. BAD.", CalendarsEdgesTest::month);
    s.says("DRIFT. BAD; NOT: no CALENDAR, or UP is 0.", CalendarsEdgesTest::driftRefusals);
    s.says("of calendars with one MONTH (1 to 99 hours)", CalendarsEdgesTest::oneMonth);
    s.says("or two (1 to 40 each)", CalendarsEdgesTest::twoMonths);
    s.says("the one with the fewest MONTHS", CalendarsEdgesTest::fewest);
    s.says("of like ones the least first, then second", CalendarsEdgesTest::leastFirst);
    s.says("whose DRIFT from a SUN of 24 MONTHS is no more than told (0 to 20)", CalendarsEdgesTest::drift24);
    s.says("and whose MONTHS together are told hours (2 to 80)", CalendarsEdgesTest::toldHours);
    s.says("its MONTHS (first, second; 0 without); NONE.", CalendarsEdgesTest::withoutSecond);
    s.says("SHORTEST: the first MONTH (what = 0), the second (1; 0); NONE. BAD; NOT: UP is 0.", CalendarsEdgesTest::shortestRefusals);
    s.says("PEOPLE 0 to 5 are awake in LIGHTS told as bits (0 to 15; 15 at first).", CalendarsEdgesTest::people);
    s.says("LIGHTS in which one is awake: what it was. BAD.", CalendarsEdgesTest::awake);
    s.says("TOGETHER: from an hour on, in n (1 to 100) hours, in how many all of told PEOPLE (bits) are awake", CalendarsEdgesTest::together);
    s.says("the first hour from a told one on, up to a ROUND later, from which on TOGETHER of n hours is greatest.", CalendarsEdgesTest::greatest);
    s.says("TOGETHER: in how many hours (what = 0), the first hour from which on it is greatest (1).", CalendarsEdgesTest::togetherWhats);
    s.says("BAD (bits 0 to 63).", CalendarsEdgesTest::togetherNumbers);
    s.end();
  }

  /** A calendar beside a red sun that rises each 40th hour from the one that PHASE tells on. */
  private static Land forty(int phase, String calendar) {
    return Land.fresh().suns(40, phase, 1, 13, 0, 0).text(1, calendar);
  }

  private static void drifts(Land x, int... want) {
    for (int n = 1; n <= want.length; n++) s.due(x, want[n - 1], "drift", 0, n);
  }

  private static void again() {
    drifts(forty(0, "01;03;05"), 0, 1, 4, 9, 10, 13, 18, 19, 19, 19);
    drifts(forty(0, "99"), 0, 19, 19, 19, 19);
    drifts(forty(0, "40"), 0, 0, 0);
    drifts(forty(3, "40"), 3, 3, 3);
    drifts(forty(0, "40;01"), 0, 0, 1, 1, 2, 2, 3);
  }

  private static void upAboveNone() {
    drifts(forty(7, "40"), 7);
    drifts(forty(7, "40").with("sun", 0, 2, 40), 7);
    s.refused(() -> forty(7, "40").with("sun", 0, 2, 0), -3, "drift", 0, 1);
    s.refused(() -> forty(7, "40"), -3, "drift", 1, 60);
    s.due(forty(7, "40").with("sun", 1, 2, 1), 1, "drift", 1, 2);
  }

  /** Each round of six MONTHS slips by an hour; the 60th MONTH alone, or the 61st, begins an hour further off. */
  private static void sixty() {
    Land inside = forty(0, "40;40;40;40;01;40");
    s.due(inside, 0, "drift", 0, 1);
    s.due(inside, 9, "drift", 0, 59);
    s.due(inside, 10, "drift", 0, 60);
    Land behind = forty(0, "40;40;40;40;40;01");
    s.due(behind, 9, "drift", 0, 60);
    s.within(Land::lived, 1, 1, 60, "drift", 0, 1);
    s.within(Land::lived, 1, 1, 60, "drift", 1, 1);
  }

  private static void nLessOne() {
    drifts(forty(0, "40;40;40;40;40;20"), 0, 0, 0, 0, 0, 0, 20, 20);
    drifts(forty(0, "20;20"), 0, 20, 20);
    drifts(forty(0, "05;35"), 0, 5, 5);
    drifts(forty(5, "35"), 5, 5, 5, 10);
  }

  /** In hour 0 the sun rose PHASE hours ago, below hour 0, and rises again in 40 less that. */
  private static void nearest() {
    int[][] rows = {{0, 0}, {1, 1}, {19, 19}, {20, 20}, {21, 19}, {39, 1}};
    for (int[] r : rows) drifts(forty(r[0], "40"), r[1], r[1]);
    drifts(forty(0, "39"), 0, 1, 2);
    drifts(forty(0, "41"), 0, 1, 2);
    Land odd = Land.fresh().suns(39, 19, 1, 2, 1, 1).text(1, "02");
    s.due(odd, 19, "drift", 0, 1);
    s.due(odd.with("sun", 0, 1, 20), 19, "drift", 0, 1);
    s.due(odd, 1, "drift", 1, 60);
    s.due(odd.with("sun", 1, 1, 0), 0, "drift", 1, 60);
  }

  private static void month() {
    String six = "01;99;40;07;08;10";
    int[] lengths = {1, 99, 40, 7, 8, 10};
    for (int months = 0; months <= 6; months++) {
      String text = six.substring(0, Math.max(0, 3 * months - 1));
      Land x = Land.fresh().text(1, text);
      for (int m = 0; m < 8; m++) s.due(x, m < months ? lengths[m] : -2, "month", m);
      s.due(x, -2, "month", -1);
    }
    s.within(() -> Land.fresh().text(1, six), 0, 0, 5, "month", 0);
    s.within(() -> Land.fresh().text(1, "99"), 0, 0, 0, "month", 0);
    s.isBad(Land::fresh, "month", 0);
    s.isBad(Land::fresh, "month", -1);
    s.isBad(() -> Land.fresh().text(1, "12;"), "month", 0);
    s.isBad(() -> Land.fresh().text(1, "00"), "month", 0);
  }

  private static void driftRefusals() {
    for (int sun = 0; sun < 2; sun++) {
      int one = sun;
      s.refused(Land::fresh, -3, "drift", sun, 1);
      s.refused(() -> Land.fresh().text(1, "07;"), -3, "drift", sun, 60);
      s.refused(() -> Land.fresh().text(1, "07").with("sun", one, 2, 0), -3, "drift", sun, 1);
      s.refused(() -> Land.fresh().with("sun", one, 2, 0), -3, "drift", sun, 1);
      s.refused(Land::fresh, -2, "drift", sun, 0);
      s.refused(Land::fresh, -2, "drift", sun, 61);
      s.refused(() -> Land.fresh().text(1, "07").with("sun", one, 2, 0), -2, "drift", sun, 61);
    }
    s.refused(Land::fresh, -2, "drift", 2, 1);
    s.refused(Land::fresh, -2, "drift", -1, 1);
  }

  private static void shortest(int turn, int phase, int most, int hours, int first, int second) {
    Land x = Land.fresh().suns(turn, phase, 1, turn, phase, turn);
    for (int sun = 0; sun < 2; sun++) s.dueOf(x, "shortest", new int[] {sun, most, hours}, first, second);
  }

  private static void oneMonth() {
    shortest(40, 0, 0, 80, 80, 0);
    shortest(40, 0, 0, 40, 40, 0);
    shortest(40, 20, 20, 41, 41, 0);
    shortest(2, 0, 0, 2, 2, 0);
    shortest(2, 0, 1, 79, 79, 0);
  }

  /** In the last four one of 41 hours, or one of none, would do. */
  private static void twoMonths() {
    shortest(39, 27, 12, 80, 40, 40);
    shortest(26, 15, 12, 2, 1, 1);
    shortest(37, 0, 11, 36, 1, 35);
    shortest(40, 5, 6, 79, 40, 39);
    shortest(40, 5, 7, 79, 39, 40);
    shortest(14, 6, 6, 69, -1, -1);
    shortest(14, 9, 6, 71, -1, -1);
    shortest(14, 2, 6, 9, -1, -1);
    shortest(14, 3, 6, 5, -1, -1);
  }

  private static void fewest() {
    shortest(39, 27, 19, 80, 80, 0);
    shortest(39, 27, 18, 80, 40, 40);
    shortest(40, 0, 0, 80, 80, 0);
  }

  private static void leastFirst() {
    shortest(40, 0, 19, 41, 1, 40);
    shortest(40, 0, 12, 41, 1, 40);
    shortest(40, 0, 11, 41, 29, 12);
    shortest(40, 5, 7, 79, 39, 40);
  }

  /** By 23 MONTHS the first of these would be 1 and 37; by 25 neither would do. A MONTH of 40 slips by one. */
  private static void drift24() {
    shortest(37, 0, 11, 38, 26, 12);
    shortest(37, 0, 11, 36, 1, 35);
    shortest(39, 28, 12, 40, 40, 0);
    shortest(39, 28, 11, 40, 1, 39);
    shortest(40, 20, 20, 2, 2, 0);
    shortest(40, 20, 19, 2, -1, -1);
    shortest(40, 0, 0, 2, -1, -1);
    shortest(40, 1, 0, 40, -1, -1);
    shortest(40, 1, 1, 40, 40, 0);
    for (int sun = 0; sun < 2; sun++) s.within(Land::lived, 1, 0, 20, "shortest", sun, 0, 40, 0);
  }

  private static void toldHours() {
    shortest(2, 0, 0, 2, 2, 0);
    shortest(40, 0, 0, 80, 80, 0);
    shortest(39, 27, 11, 80, -1, -1);
    shortest(26, 15, 11, 2, -1, -1);
    for (int what = 0; what < 2; what++) s.within(Land::lived, 2, 2, 80, "shortest", 0, 20, 2, what);
  }

  private static void withoutSecond() {
    shortest(40, 20, 20, 2, 2, 0);
    shortest(26, 15, 12, 2, 1, 1);
    shortest(26, 15, 11, 2, -1, -1);
  }

  private static void shortestRefusals() {
    s.within(Land::lived, 3, 0, 1, "shortest", 0, 20, 40, 0);
    for (int sun = 0; sun < 2; sun++) {
      int one = sun;
      s.refused(() -> Land.lived().with("sun", one, 2, 0), -3, "shortest", sun, 20, 40, 0);
      s.refused(() -> Land.lived().with("sun", one, 2, 0), -3, "shortest", sun, 0, 2, 1);
      s.refused(() -> Land.lived().with("sun", one, 2, 0), -2, "shortest", sun, 21, 40, 0);
      s.refused(() -> Land.lived().with("sun", one, 2, 0), -2, "shortest", sun, 20, 81, 0);
      s.refused(() -> Land.lived().with("sun", one, 2, 0), -2, "shortest", sun, 20, 40, 2);
      s.due(Land.fresh().with("sun", one, 2, 1), 13, "shortest", 1, 0, 13, 0);
    }
    s.refused(() -> Land.fresh().suns(8, 0, 0, 13, 0, 0), -2, "shortest", 2, 20, 40, 0);
  }

  private static void people() {
    int[][] ups = {{0, 0}, {1, 0}, {0, 1}, {1, 1}};
    for (int light = 0; light < 4; light++) {
      for (int p = 0; p < 6; p++) {
        Land x = Land.fresh().suns(2, 0, 2 * ups[light][0], 2, 0, 2 * ups[light][1]);
        s.due(x, 1, "together", 1 << p, 0, 1, 0);
        s.due(x, 15, "awake", p, 1 << light);
        s.due(x, 1, "together", 1 << p, 0, 1, 0);
        s.due(x, 1 << light, "awake", p, 15 - (1 << light));
        s.due(x, 0, "together", 1 << p, 0, 1, 0);
        s.due(x, 1, "together", 63 - (1 << p), 0, 1, 0);
        s.due(x, 0, "together", 63, 0, 1, 0);
      }
    }
    s.within(Land::lived, 0, 0, 5, "awake", 0, 0);
    for (int p = 0; p < 6; p++) s.within(Land::lived, 1, 0, 15, "awake", p, 0);
  }

  private static void awake() {
    for (int p = 0; p < 6; p++) {
      Land x = Land.fresh();
      s.due(x, 15, "awake", p, 0);
      s.due(x, 0, "awake", p, 15);
      s.due(x, 15, "awake", p, 14);
      s.due(x, -2, "awake", p, 16);
      s.due(x, -2, "awake", p, -1);
      s.due(x, 14, "awake", p, 15);
    }
    s.isBad(Land::lived, "awake", 6, 0);
    s.isBad(Land::lived, "awake", -1, 0);
  }

  /** Lights from hour 0 on: 1 2 0 1 3 0 0 3 1 0 2 1, and again; one is awake by night, one in light 3. */
  private static Land dozen() {
    return Land.fresh().suns(4, 1, 2, 3, 2, 1).with("awake", 0, 1).with("awake", 1, 3).with("awake", 5, 8);
  }

  private static void together() {
    Land x = dozen();
    s.due(x, 1, "together", 0, 0, 1, 0);
    s.due(x, 100, "together", 0, LAST, 100, 0);
    s.due(x, 0, "together", 1, 4, 1, 0);
    s.due(x, 1, "together", 1, 5, 1, 0);
    s.due(x, 4, "together", 1, 0, 12, 0);
    s.due(x, 4, "together", 1, 7, 12, 0);
    s.due(x, 4, "together", 3, 0, 12, 0);
    s.due(x, 33, "together", 1, 0, 99, 0);
    s.due(x, 33, "together", 1, 0, 100, 0);
    s.due(x, 17, "together", 32, 1, 100, 0);
    s.due(x, 16, "together", 32, 1, 99, 0);
    s.due(x, 0, "together", 33, 0, 100, 0);
    s.due(x, 2, "together", 1, LAST, 3, 0);
    s.within(Land::lived, 2, 1, 100, "together", 1, 0, 1, 0);
    s.within(Land::lived, 2, 1, 100, "together", 1, 0, 1, 1);
  }

  /** Light 3, in which that person is awake, comes in hour 0 of 1560 alone. */
  private static Land rare() {
    return Land.fresh().suns(40, 0, 1, 39, 0, 1).with("awake", 3, 8);
  }

  private static void greatest() {
    s.due(rare(), 0, "together", 8, 0, 1, 1);
    s.due(rare(), 1560, "together", 8, 1, 1, 1);
    s.due(rare(), 1560, "together", 8, 1560, 1, 1);
    s.due(rare(), 3120, "together", 8, 1561, 1, 1);
    s.due(rare(), 1461, "together", 8, 1, 100, 1);
    s.due(rare(), 1461, "together", 8, 1461, 100, 1);
    s.due(rare(), 1462, "together", 8, 1462, 100, 1);
    s.due(rare(), 1560, "together", 8, 1560, 100, 1);
    s.due(rare(), 1561 + 1460, "together", 8, 1561, 100, 1);
    s.due(rare(), 77, "together", 0, 77, 100, 1);
    s.due(rare().with("awake", 3, 0), 77, "together", 8, 77, 100, 1);
    s.due(dozen(), LAST, "together", 32, LAST, 4, 1);
    s.due(dozen(), LAST + 1, "together", 1, LAST, 2, 1);
    s.due(rare().with("sun", 0, 1, 1).with("sun", 1, 1, 15), LAST + 1559, "together", 8, LAST, 1, 1);
  }

  private static void togetherWhats() {
    s.dueOf(dozen(), "together", new int[] {1, 0, 2}, 0, 5);
    s.dueOf(dozen(), "together", new int[] {32, 5, 4}, 1, 16);
    s.within(Land::lived, 3, 0, 1, "together", 0, 0, 1, 0);
    s.within(Land::lived, 3, 0, 1, "together", 63, LAST, 100, 0);
  }

  private static void togetherNumbers() {
    for (int what = 0; what < 2; what++) s.within(Land::lived, 0, 0, 63, "together", 0, 5, 7, what);
    s.within(Land::lived, 1, 0, LAST, "together", 63, 0, 100, 1);
    s.due(dozen(), 2, "together", 63 - 32, 5, 2, 0);
    s.due(dozen(), 0, "together", 63, 5, 2, 0);
    s.due(dozen(), 2, "together", 0, 5, 2, 0);
  }
}
