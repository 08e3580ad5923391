import java.util.ArrayList;
import java.util.List;
import java.util.Random;

/** Promise 37: the digest is made of the answers of the other calls, in the order told. */
public final class DigestTest {
  private static final Check c = new Check("DigestTest");

  public static void main(String[] args) {
    SecondSunrise x = new SecondSunrise();
    same("new", x);
    Check.type(x, 0, "d...r");
    same("with a diary", x);
    Check.type(x, 1, "08;13");
    same("with a calendar", x);
    Check.suns(x, 7, 3, 0, 13, 5, 4);
    same("red is never up", x);
    x.awake(0, 7);
    x.awake(1, 6);
    x.awake(2, 5);
    x.worth(1, 44);
    x.worth(2, 45);
    same("with people", x);
    x.plant(1, 2);
    x.grows(1, 2, 9);
    same("with plants", x);
    long before = x.digest();
    x.sheet(0, 0, 5);
    x.put(0, 1, 0, 0);
    c.due("sheets and findings are not in it", x.digest(), before);
    c.due("it keeps the finding", x.count(8), 3);
    c.that("a worth is in it", x.worth(5, 11) == 10 && x.digest() != before);
    x.type(0, 'x');
    x.type(1, 'x');
    same("with faults", x);
    Random random = new Random(37);
    for (int i = 0; i < 100; i++) same("of state " + i, someState(random));
    c.end();
  }

  private static SecondSunrise someState(Random random) {
    SecondSunrise x = new SecondSunrise();
    for (int i = 0; i < 40; i++) {
      Calls call = Calls.ALL[random.nextInt(Calls.ALL.length)];
      call.askReal(x, call.someArguments(random));
    }
    Check.retype(x, 0, random.nextBoolean() ? "d.x" : "..r");
    Check.retype(x, 1, random.nextBoolean() ? "07;0" : "07;11");
    return x;
  }

  private static void add(List<Long> all, long... values) {
    for (long v : values) all.add(v);
  }

  private static void same(String when, SecondSunrise x) {
    List<Long> all = new ArrayList<>();
    for (int i = 0; i <= 7; i++) add(all, x.count(i));
    add(all, x.fault(0), x.fault(1), x.light(0), x.light(7), x.light(999), x.lasts(7));
    for (int l = 0; l <= 3; l++) add(all, x.next(50, l), x.spells(l, 0), x.spells(l, 1), x.spells(l, 2));
    for (int s = 0; s <= 1; s++) {
      add(all, x.without(s), x.place(s, 77), x.drift(s, 9), x.shortest(s, 4, 20, 0), x.shortest(s, 4, 20, 1));
      add(all, x.clouds(s, 3, 5, 4, 0), x.clouds(s, 3, 5, 4, 1));
    }
    add(all, x.together(7, 2, 9, 0), x.together(7, 2, 9, 1), x.dials(1, 2, 0), x.dials(1, 2, 1));
    add(all, x.fits(0), x.fits(1), x.watch(0), x.watch(1), x.price(2));
    for (int p = 0; p <= 3; p++) add(all, x.crop(p, 5));
    add(all, x.planting(1, 12, 0), x.planting(1, 12, 1));
    long h = 17;
    for (long v : all) h = 31 * h + v;
    c.due("digest " + when, x.digest(), h);
    c.due("digest again " + when, x.digest(), h);
  }
}
