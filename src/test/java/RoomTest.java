import java.lang.management.ManagementFactory;
import java.util.Random;

/** All calls live in one room: an object is small, and no call makes anything. */
public final class RoomTest {
  private static final Check c = new Check("RoomTest");
  private static long kept = 0;

  public static void main(String[] args) {
    com.sun.management.ThreadMXBean room = (com.sun.management.ThreadMXBean) ManagementFactory.getThreadMXBean();
    useAll(new SecondSunrise());
    room.getCurrentThreadAllocatedBytes();
    long first = room.getCurrentThreadAllocatedBytes();
    SecondSunrise x = new SecondSunrise();
    long made = room.getCurrentThreadAllocatedBytes();
    for (int i = 0; i < 10; i++) useAll(x);
    long used = room.getCurrentThreadAllocatedBytes();
    c.that("an object takes " + (made - first) + " bytes", made - first < 8000);
    c.that("calls take " + (used - made) + " bytes", used - made < 1000);
    c.that("the answers are used", new Random(kept).nextInt() != kept);
    c.end();
  }

  private static void useAll(SecondSunrise x) {
    kept += x.sun(0, 0, 39) + x.sun(1, 0, 40) + x.type(0, 'd') + x.type(1, '1') + x.wipe(1) + x.type(1, '1');
    kept += x.type(1, '9') + x.undo(0) + x.fault(0) + x.fault(1) + x.light(1) + x.place(1, 1) + x.round();
    kept += x.next(1, 3) + x.lasts(5) + x.spells(1, 0) + x.spells(1, 1) + x.spells(1, 2) + x.without(1) + x.month(0);
    kept += x.drift(1, 60) + x.shortest(1, 0, 79, 0) + x.awake(1, 7) + x.together(3, 5, 100, 1) + x.dials(1, 1, 0);
    kept += x.fits(0) + x.watch(0) + x.worth(1, 7) + x.price(2) + x.plant(1, 1) + x.grows(1, 1, 1);
    kept += x.sheet(1, 1, 48) + x.read(1, 1) + x.crop(1, 1) + x.planting(1, 60, 1) + x.clouds(1, 1, 14, 3, 0);
    kept += x.sheet(2, 1, 48) + x.lose(3) + x.put(1, 1, 1, 1) + x.get(1, 1, 1) + x.copy(1, 0, 2, 3, 9);
    kept += x.write(1, 1) + x.count(5) + x.digest();
  }
}
