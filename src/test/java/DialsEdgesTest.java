import java.util.function.Supplier;

/** Promises 19 to 21 at their edges: dials, fits, watch. */
public final class DialsEdgesTest {
  private static final Sentences s = new Sentences("DialsEdgesTest");

  public static void main(String[] args) {
    s.says("a SUN that is up shows its PLACE, else NONE.", DialsEdgesTest::shows);
    s.says("HOURS of a ROUND in which both show told ones: how many; the first; NONE.", DialsEdgesTest::hoursOfARound);
    s.says("Hours of a ROUND by two DIALS (NONE to 39): how many (what = 0), the first (1; NONE). BAD.", DialsEdgesTest::dialNumbers);
    s.says("PHASES of both SUNS (TURNS, UP as they are) by which THE DIARY comes out so: how many", DialsEdgesTest::howMany);
    s.says("(TURNS, UP as they are)", DialsEdgesTest::asTheyAre);
    s.says("the first (40 times that of the red, and that of the blue one); NONE.", DialsEdgesTest::firstPhases);
    s.says("FITS: how many (what = 0), the first (1; NONE). BAD.", DialsEdgesTest::fitsNumbers);
    s.says("of hours behind THE DIARY (a ROUND of them)", DialsEdgesTest::behindTheDiary);
    s.says("the first of those whose LIGHT, whatever it is seen to be, leaves fewest of what FITS at worst", DialsEdgesTest::fewestAtWorst);
    s.says("WATCH: the hour (what = 0), how many are left at worst (1). BAD; NOT: nothing FITS.", DialsEdgesTest::watchRefusals);
    s.end();
  }

  private static void dials(Land x, int red, int blue, int hours, int first) {
    s.dueOf(x, "dials", new int[] {red, blue}, hours, first);
  }

  /** UP is 3 of 4 for the red sun, 2 of 4 for the blue one: PLACES 0 to 2, and 0 and 1, are shown. */
  private static void shows() {
    Land x = Land.fresh().suns(4, 0, 3, 4, 0, 2);
    dials(x, 0, 0, 1, 0);
    dials(x, 1, 1, 1, 1);
    dials(x, 2, 2, 0, -1);
    dials(x, 2, -1, 1, 2);
    dials(x, 3, -1, 0, -1);
    dials(x, -1, -1, 1, 3);
    dials(x, -1, 0, 0, -1);
    Land never = Land.fresh().suns(4, 0, 0, 3, 0, 0);
    dials(never, -1, -1, 12, 0);
    dials(never, 0, -1, 0, -1);
    dials(never, -1, 0, 0, -1);
    Land always = Land.fresh().suns(4, 0, 4, 3, 0, 3);
    dials(always, -1, -1, 0, -1);
    dials(always, 3, 2, 1, 11);
    dials(always, 0, 0, 1, 0);
    dials(always, 3, -1, 0, -1);
  }

  private static void hoursOfARound() {
    Land first = Land.fresh().suns(40, 0, 1, 39, 0, 1);
    dials(first, 0, 0, 1, 0);
    dials(first, 0, -1, 38, 40);
    dials(first, -1, 0, 39, 39);
    dials(first, -1, -1, 1482, 1);
    Land last = Land.fresh().suns(40, 1, 1, 39, 1, 1);
    dials(last, 0, 0, 1, 1559);
    dials(last, 0, -1, 38, 39);
    Land same = Land.fresh().suns(40, 0, 40, 40, 1, 40);
    dials(same, 39, 0, 1, 39);
    dials(same, 0, 1, 1, 0);
    dials(same, 0, 0, 0, -1);
    Land part = Land.fresh().suns(4, 0, 4, 2, 0, 2);
    dials(part, 3, 1, 1, 3);
    dials(part, 3, 0, 0, -1);
  }

  private static void dialNumbers() {
    Land great = Land.fresh().suns(40, 0, 40, 2, 0, 0);
    dials(great, 39, -1, 1, 39);
    dials(Land.fresh().suns(2, 0, 0, 40, 0, 40), -1, 39, 1, 39);
    dials(Land.fresh().suns(40, 0, 40, 40, 0, 40), 39, 39, 1, 39);
    dials(Land.fresh(), 39, 39, 0, -1);
    dials(Land.fresh(), 4, 5, 1, 44);
    for (int what = 0; what < 2; what++) {
      s.within(Land::lived, 0, -1, 39, "dials", 0, 0, what);
      s.within(Land::lived, 1, -1, 39, "dials", 0, 0, what);
    }
    s.within(Land::lived, 2, 0, 1, "dials", -1, -1, 0);
  }

  private static Land diary(String letters, int... suns) {
    return Land.fresh().suns(suns).text(0, letters);
  }

  private static void fits(Land x, int many, int first) {
    s.dueOf(x, "fits", new int[0], many, first);
  }

  private static void howMany() {
    fits(diary("", 40, 7, 1, 40, 9, 1), 1600, 0);
    fits(diary(".".repeat(60), 40, 7, 1, 40, 9, 1), 1600, 0);
    fits(diary("", 2, 1, 1, 2, 1, 1), 4, 0);
    fits(diary("d", 40, 7, 1, 40, 9, 1), 1, 0);
    fits(diary("d", 40, 7, 40, 40, 9, 40), 1600, 0);
    fits(diary("n", 40, 7, 0, 40, 9, 0), 1600, 0);
    fits(diary("n", 40, 7, 39, 40, 9, 39), 1, 1599);
    fits(diary("d", 2, 1, 0, 2, 1, 2), 0, -1);
    fits(diary("dd", 40, 7, 1, 40, 9, 1), 0, -1);
    fits(diary("d" + ".".repeat(39) + "d", 40, 7, 1, 40, 9, 1), 1, 0);
    fits(diary("d" + ".".repeat(38) + "d", 40, 7, 1, 40, 9, 1), 0, -1);
    fits(diary("n".repeat(60), 40, 7, 1, 40, 9, 1), 0, -1);
    fits(diary("n".repeat(39), 40, 7, 1, 40, 9, 1), 1, 40 + 1);
    fits(diary("n".repeat(40), 40, 7, 1, 40, 9, 1), 0, -1);
    fits(diary(".".repeat(59) + "d", 40, 7, 1, 40, 9, 1), 1, 40 * 21 + 21);
    fits(diary("nx", 40, 7, 0, 40, 9, 1), 1600, 0);
  }

  /** What was found by greater TURNS, or by another UP, is no more. */
  private static void asTheyAre() {
    Land x = diary("", 40, 7, 40, 40, 9, 40);
    fits(x, 1600, 0);
    watch(x, 0, 1600);
    x.with("sun", 0, 0, 2);
    fits(x, 80, 0);
    watch(x, 0, 80);
    x.with("sun", 1, 0, 39);
    fits(x, 78, 0);
    watch(x, 0, 78);
    x.with("sun", 0, 2, 1).with("sun", 1, 2, 1);
    fits(x, 78, 0);
    watch(x, 0, 38);
    x.with("sun", 1, 0, 40);
    fits(x, 80, 0);
    watch(x, 0, 39);
    x.with("type", 0, 'd');
    fits(x, 1, 0);
    x.with("wipe", 0).with("sun", 0, 1, 0).with("sun", 1, 1, 0);
    fits(x, 80, 0);
  }

  private static void firstPhases() {
    fits(diary(".d", 40, 0, 1, 40, 0, 1), 1, 1599);
    fits(diary(".d", 40, 0, 1, 2, 0, 1), 1, 40 * 39 + 1);
    fits(diary(".d", 2, 0, 1, 40, 0, 1), 1, 40 + 39);
    fits(diary(".d", 2, 0, 1, 2, 0, 1), 1, 41);
    fits(diary("r", 40, 0, 1, 40, 0, 1), 39, 1);
    fits(diary("b", 40, 0, 1, 40, 0, 1), 39, 40);
    fits(diary("n", 40, 0, 1, 40, 0, 1), 39 * 39, 41);
    fits(diary("rb", 40, 0, 1, 40, 0, 1), 1, 39);
    fits(diary("br", 40, 0, 1, 40, 0, 1), 1, 40 * 39);
    fits(diary("n", 40, 0, 40, 40, 0, 1), 0, -1);
  }

  private static void fitsNumbers() {
    s.within(Land::lived, 0, 0, 1, "fits", 0);
    s.within(() -> diary("dd", 40, 7, 1, 40, 9, 1), 0, 0, 1, "fits", 0);
    s.within(() -> diary("x", 8, 0, 5, 13, 0, 6), 0, 0, 1, "fits", 0);
  }

  private static void watch(Land x, int hour, int left) {
    s.dueOf(x, "watch", new int[0], hour, left);
  }

  /** Red phases 0, 1, 4 and 7 of 10 are left, two of which are up together in hours 10, 20 .. alone. */
  private static Land lastOfTheRound() {
    return diary("..n..n..n..", 10, 0, 2, 2, 0, 0);
  }

  private static void behindTheDiary() {
    watch(diary("", 4, 1, 2, 3, 2, 1), 0, 4);
    watch(diary(".", 4, 1, 2, 3, 2, 1), 1, 4);
    watch(diary(".".repeat(59), 4, 1, 2, 3, 2, 1), 59, 4);
    watch(diary(".".repeat(60), 4, 1, 2, 3, 2, 1), 60, 4);
    watch(diary("d" + ".".repeat(59), 4, 1, 2, 3, 2, 1), 61, 1);
    watch(diary("dx", 4, 1, 2, 3, 2, 1), 0, 4);
    fits(lastOfTheRound(), 8, 0);
    watch(lastOfTheRound(), 20, 4);
    watch(lastOfTheRound().with("undo", 0), 10, 4);
    watch(lastOfTheRound().with("type", 0, '.'), 20, 4);
  }

  /** By TURN 40 and UP 1 the first hour of those behind tells as much as any; by UP 20 it halves all. */
  private static void fewestAtWorst() {
    watch(diary("", 40, 0, 20, 40, 0, 20), 0, 400);
    watch(diary("", 40, 0, 1, 40, 0, 1), 0, 39 * 39);
    watch(diary("", 40, 0, 40, 40, 0, 0), 0, 1600);
    watch(diary("d", 40, 0, 1, 40, 0, 1), 1, 1);
    watch(diary("d", 40, 0, 2, 40, 0, 40), 1, 40);
    watch(diary("d", 6, 0, 3, 6, 0, 6), 1, 12);
    watch(diary("d", 8, 0, 4, 6, 0, 6), 2, 12);
    watch(diary("", 2, 0, 1, 2, 0, 1), 0, 1);
    watch(diary("b", 6, 0, 1, 6, 0, 6), 1, 24);
    watch(diary("b.....", 6, 0, 1, 6, 0, 6), 7, 24);
  }

  private static void watchRefusals() {
    Supplier<Land> nothing = () -> diary("dd", 40, 7, 1, 40, 9, 1);
    s.within(Land::lived, 0, 0, 1, "watch", 0);
    s.refused(nothing, -3, "watch", 0);
    s.refused(nothing, -3, "watch", 1);
    s.refused(nothing, -2, "watch", 2);
    s.refused(nothing, -2, "watch", -1);
    s.refused(() -> diary("r", 8, 0, 0, 13, 0, 0), -3, "watch", 0);
    s.refused(() -> diary("b", 8, 0, 0, 13, 0, 0), -3, "watch", 1);
    watch(nothing.get().with("undo", 0), 1, 1);
    watch(nothing.get().with("type", 0, 'x'), 0, 39 * 39);
  }
}
