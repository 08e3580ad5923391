import java.math.BigInteger;
import java.util.ArrayList;
import java.util.Arrays;
import java.util.List;

/**
 * The document, done as plainly as can be: every answer by trying out all that there is.
 * It shares no code and no shortcut with the class, so that both are unlikely to be wrong alike.
 */
final class PlainModel {
  private static final int LEAST = Integer.MIN_VALUE;
  private final int[] turn = {8, 13};
  private final int[] phase = {0, 0};
  private final int[] up = {5, 6};
  private final StringBuilder[] texts = {new StringBuilder(), new StringBuilder()};
  private final int[] awake = {15, 15, 15, 15, 15, 15};
  private final int[] worth = {10, 10, 10, 10, 10, 10};
  private final int[] hours = {4, 4, 4, 4};
  private final int[][] growth = {{0, 1, 1, 2}, {0, 1, 1, 2}, {0, 1, 1, 2}, {0, 1, 1, 2}};
  private final Object[] sheets = new Object[4];
  private int finding = 0;
  private int[] watched = null;

  private static boolean in(int v, int lo, int hi) { return lo <= v && v <= hi; }
  private static boolean isHour(int h) { return in(h, 0, 1000000000); }
  private int place0(int s, long h, int ph) { return (int) Math.floorMod(h + ph, (long) turn[s]); }
  private boolean upAt(int s, long h) { return place0(s, h, phase[s]) < up[s]; }
  private int lightBy(long h, int p, int q) {
    return (place0(0, h, p) < up[0] ? 1 : 0) | (place0(1, h, q) < up[1] ? 2 : 0);
  }
  private int lightAt(long h) { return lightBy(h, phase[0], phase[1]); }

  int sun(int s, int what, int v) {
    if (!in(s, 0, 1) || !in(what, 0, 2)) return -2;
    int[] of = what == 0 ? turn : what == 1 ? phase : up;
    int lo = what == 0 ? 2 : 0;
    int hi = what == 0 ? 40 : what == 1 ? turn[s] - 1 : turn[s];
    if (!in(v, lo, hi)) return -2;
    int was = of[s];
    of[s] = v;
    if (what == 0) {
      while (phase[s] >= v) phase[s] -= v;
      if (up[s] > v) up[s] = v;
    }
    watched = null;
    return was;
  }

  int type(int t, int b) {
    if (!in(t, 0, 1) || !in(b, 0, 255)) return -2;
    if (texts[t].length() == (t == 0 ? 60 : 20)) return -4;
    watched = null;
    return texts[t].append((char) b).length();
  }

  int wipe(int t) {
    if (!in(t, 0, 1)) return -2;
    int n = texts[t].length();
    texts[t].setLength(0);
    watched = null;
    return n;
  }

  int undo(int t) {
    if (!in(t, 0, 1)) return -2;
    if (texts[t].length() == 0) return -3;
    texts[t].setLength(texts[t].length() - 1);
    watched = null;
    return texts[t].length();
  }

  int fault(int t) {
    if (!in(t, 0, 1)) return -2;
    String s = texts[t].toString();
    String month = "(?!00)[0-9][0-9]";
    String begun = t == 0 ? "[nrbd.]*" : "(" + month + ";){0,5}([0-9]|" + month + ";?)?";
    String ended = t == 0 ? "[nrbd.]*" : "(" + month + "(;" + month + "){0,5})?";
    for (int i = 1; i <= s.length(); i++) if (!s.substring(0, i).matches(begun)) return i - 1;
    return s.matches(ended) ? -1 : s.length();
  }

  private String diary() { return fault(0) == -1 ? texts[0].toString() : ""; }

  private List<Integer> calendar() {
    List<Integer> months = new ArrayList<>();
    if (fault(1) == -1 && texts[1].length() > 0) {
      for (String m : texts[1].toString().split(";")) months.add(Integer.parseInt(m));
    }
    return months;
  }

  int light(int h) { return isHour(h) ? lightAt(h) : -2; }
  int place(int s, int h) { return in(s, 0, 1) && isHour(h) ? place0(s, h, phase[s]) : -2; }

  int round() {
    int r = 1;
    while (r % turn[0] != 0 || r % turn[1] != 0) r++;
    return r;
  }

  int next(int h, int light) {
    if (!isHour(h) || !in(light, 0, 3)) return -2;
    for (int k = 0; k < 1600; k++) if (lightAt(h + k) == light) return h + k;
    return -1;
  }

  int lasts(int h) {
    if (!isHour(h)) return -2;
    int r = round();
    for (int k = 1; k <= r; k++) if (lightAt(h + k) != lightAt(h)) return k;
    return r;
  }

  /** Hours, rows and the longest row of true ones on a ring. */
  private static int[] ring(boolean[] on) {
    int n = on.length, all = 0, rows = 0, longest = 0;
    for (boolean b : on) if (b) all++;
    if (all == n) return new int[] {n, 1, n};
    for (int i = 0; i < n; i++) {
      if (!on[i] || on[(i + n - 1) % n]) continue;
      rows++;
      int k = 0;
      while (on[(i + k) % n]) k++;
      longest = Math.max(longest, k);
    }
    return new int[] {all, rows, longest};
  }

  int spells(int light, int what) {
    if (!in(light, 0, 3) || !in(what, 0, 2)) return -2;
    boolean[] on = new boolean[round()];
    for (int h = 0; h < on.length; h++) on[h] = lightAt(h) == light;
    return ring(on)[what];
  }

  int without(int s) {
    if (!in(s, 0, 1)) return -2;
    boolean[] on = new boolean[round()];
    for (int h = 0; h < on.length; h++) on[h] = !upAt(s, h);
    return ring(on)[2];
  }

  int month(int m) {
    List<Integer> months = calendar();
    return in(m, 0, months.size() - 1) ? months.get(m) : -2;
  }

  private boolean rises(int s, long h) { return upAt(s, h) && place0(s, h, phase[s]) == 0; }

  private int driftOf(int s, int n, List<Integer> months) {
    int worst = 0;
    int start = 0;
    for (int k = 0; k < n; k++) {
      int away = 0;
      while (!rises(s, start + away) && !rises(s, start - away)) away++;
      worst = Math.max(worst, away);
      start += months.get(k % months.size());
    }
    return worst;
  }

  int drift(int s, int n) {
    if (!in(s, 0, 1) || !in(n, 1, 60)) return -2;
    if (calendar().isEmpty() || up[s] == 0) return -3;
    return driftOf(s, n, calendar());
  }

  int shortest(int s, int most, int total, int what) {
    if (!in(s, 0, 1) || !in(most, 0, 20) || !in(total, 2, 80) || !in(what, 0, 1)) return -2;
    if (up[s] == 0) return -3;
    for (int a = 1; a <= 99; a++) {
      if (a == total && driftOf(s, 24, List.of(a)) <= most) return what == 0 ? a : 0;
    }
    for (int a = 1; a <= 40; a++) {
      for (int b = 1; b <= 40; b++) {
        if (a + b == total && driftOf(s, 24, List.of(a, b)) <= most) return what == 0 ? a : b;
      }
    }
    return -1;
  }

  int awake(int p, int lights) {
    if (!in(p, 0, 5) || !in(lights, 0, 15)) return -2;
    int was = awake[p];
    awake[p] = lights;
    return was;
  }

  private int togetherFrom(int people, int h, int n) {
    int all = 0;
    for (int k = 0; k < n; k++) {
      boolean every = true;
      for (int p = 0; p < 6; p++) {
        if ((people & 1 << p) != 0 && (awake[p] & 1 << lightAt(h + k)) == 0) every = false;
      }
      if (every) all++;
    }
    return all;
  }

  int together(int people, int h, int n, int what) {
    if (!in(people, 0, 63) || !isHour(h) || !in(n, 1, 100) || !in(what, 0, 1)) return -2;
    if (what == 0) return togetherFrom(people, h, n);
    int r = round();
    int best = h;
    int most = -1;
    for (int k = 0; k <= r; k++) {
      int now = togetherFrom(people, h + k, n);
      if (now > most) { most = now; best = h + k; }
    }
    return best;
  }

  int dials(int red, int blue, int what) {
    if (!in(red, -1, 39) || !in(blue, -1, 39) || !in(what, 0, 1)) return -2;
    List<Integer> hoursOf = new ArrayList<>();
    for (int h = 0; h < round(); h++) {
      int r = upAt(0, h) ? place(0, h) : -1;
      int b = upAt(1, h) ? place(1, h) : -1;
      if (r == red && b == blue) hoursOf.add(h);
    }
    return what == 0 ? hoursOf.size() : hoursOf.isEmpty() ? -1 : hoursOf.get(0);
  }

  private List<int[]> fitting() {
    List<int[]> all = new ArrayList<>();
    String d = diary();
    for (int p = 0; p < turn[0]; p++) {
      for (int q = 0; q < turn[1]; q++) {
        boolean so = true;
        for (int h = 0; h < d.length() && so; h++) {
          so = d.charAt(h) == '.' || d.charAt(h) == "nrbd".charAt(lightBy(h, p, q));
        }
        if (so) all.add(new int[] {p, q});
      }
    }
    return all;
  }

  int fits(int what) {
    if (!in(what, 0, 1)) return -2;
    List<int[]> all = fitting();
    return what == 0 ? all.size() : all.isEmpty() ? -1 : 40 * all.get(0)[0] + all.get(0)[1];
  }

  int watch(int what) {
    if (!in(what, 0, 1)) return -2;
    if (watched == null) watched = findWatch();
    return watched[what];
  }

  private int[] findWatch() {
    List<int[]> all = fitting();
    if (all.isEmpty()) return new int[] {-3, -3};
    int[] best = {-1, Integer.MAX_VALUE};
    int from = diary().length();
    int r = round();
    for (int h = from; h < from + r; h++) {
      int[] left = new int[4];
      for (int[] pq : all) left[lightBy(h, pq[0], pq[1])]++;
      int worst = Arrays.stream(left).max().getAsInt();
      if (worst < best[1]) best = new int[] {h, worst};
    }
    return best;
  }

  int worth(int p, int v) {
    if (!in(p, 0, 5) || !in(v, 0, 99)) return -2;
    int was = worth[p];
    worth[p] = v;
    return was;
  }

  int price(int rooms) {
    if (!in(rooms, 0, 6)) return -2;
    List<Integer> bids = new ArrayList<>();
    for (int p = 0; p < 6; p++) if (awake[p] < 8) bids.add(-worth[p]);
    bids.sort(null);
    return rooms < bids.size() ? -bids.get(rooms) : 0;
  }

  int plant(int p, int n) {
    if (!in(p, 0, 3) || !in(n, 1, 20)) return -2;
    int was = hours[p];
    hours[p] = n;
    return was;
  }

  int grows(int p, int light, int v) {
    if (!in(p, 0, 3) || !in(light, 0, 3) || !in(v, -9, 9)) return -2;
    int was = growth[p][light];
    growth[p][light] = v;
    return was + 10;
  }

  private int lost() { finding = 1; return -11; }

  int read(int s, int p) {
    if (!in(s, 0, 3) || !in(p, 0, 3)) return -2;
    if (sheets[s] == null) return lost();
    int n = java.lang.reflect.Array.getLength(sheets[s]);
    for (int i = 0; i < 4; i++) {
      if (i == n || !in(java.lang.reflect.Array.getInt(sheets[s], i), -9, 9)) return i;
      growth[p][i] = java.lang.reflect.Array.getInt(sheets[s], i);
    }
    return 4;
  }

  int crop(int p, int h) {
    if (!in(p, 0, 3) || !isHour(h)) return -2;
    return cropAt(p, h);
  }

  private int cropAt(int p, int h) {
    int all = 0;
    for (int k = 0; k < hours[p]; k++) all += growth[p][lightAt(h + k)];
    return all > 0 ? all : 0;
  }

  int planting(int h, int n, int what) {
    if (!isHour(h) || !in(n, 0, 60) || !in(what, 0, 1)) return -2;
    Integer[] known = new Integer[n + 1];
    int most = mostOf(h, n, 0, known);
    if (what == 0) return most;
    if (n == 0 || mostOf(h, n, 1, known) == most) return -1;
    for (int p = 0; p < 4; p++) {
      if (hours[p] <= n && cropAt(p, h) + mostOf(h, n, hours[p], known) == most) return p;
    }
    return -1;
  }

  private int mostOf(int h, int n, int k, Integer[] known) {
    if (k == n) return 0;
    if (known[k] == null) {
      int most = mostOf(h, n, k + 1, known);
      for (int p = 0; p < 4; p++) {
        if (k + hours[p] <= n) most = Math.max(most, cropAt(p, h + k) + mostOf(h, n, k + hours[p], known));
      }
      known[k] = most;
    }
    return known[k];
  }

  long clouds(int s, int h, int n, int sixteenths, int what) {
    if (!in(s, 0, 1) || !isHour(h) || !in(n, 0, 14) || !in(sixteenths, 0, 16) || !in(what, 0, 1)) {
      return Long.MIN_VALUE + 2;
    }
    BigInteger above = BigInteger.ZERO;
    BigInteger below = BigInteger.ONE;
    for (int k = 0; k < n; k++) {
      if (!upAt(s, h + k)) continue;
      BigInteger rest = below.subtract(above);
      above = above.multiply(BigInteger.valueOf(16)).add(rest.multiply(BigInteger.valueOf(16 - sixteenths)));
      below = below.multiply(BigInteger.valueOf(16));
    }
    BigInteger g = above.gcd(below);
    return (what == 0 ? above : below).divide(g).longValueExact();
  }

  int sheet(int s, int form, int n) {
    if (!in(s, 0, 3) || !in(form, 0, 2) || n > 48) return -2;
    if (n < 0) { finding = 5; return -15; }
    sheets[s] = form == 0 ? new byte[n] : form == 1 ? new short[n] : (Object) new int[n];
    return n;
  }

  int lose(int s) {
    if (!in(s, 0, 3)) return -2;
    if (sheets[s] == null) return lost();
    int n = java.lang.reflect.Array.getLength(sheets[s]);
    sheets[s] = null;
    return n;
  }

  /** Here the machine itself finds out what is wrong, by what it throws. */
  int put(int s, int form, int i, int v) {
    if (!in(s, 0, 3) || !in(form, 0, 2)) return -2;
    if (sheets[s] == null) return lost();
    try {
      if (form == 0) ((byte[]) sheets[s])[i] = (byte) v;
      else if (form == 1) ((short[]) sheets[s])[i] = (short) v;
      else ((int[]) sheets[s])[i] = v;
      return 1;
    } catch (ClassCastException e) {
      finding = 3;
    } catch (ArrayIndexOutOfBoundsException e) {
      finding = 2;
    }
    return -10 - finding;
  }

  int get(int s, int form, int i) {
    if (!in(s, 0, 3) || !in(form, 0, 2)) return LEAST;
    try {
      if (sheets[s] == null) lost();
      else if (form == 0) return ((byte[]) sheets[s])[i];
      else if (form == 1) return ((short[]) sheets[s])[i];
      else return ((int[]) sheets[s])[i];
    } catch (ClassCastException e) {
      finding = 3;
    } catch (ArrayIndexOutOfBoundsException e) {
      finding = 2;
    }
    return LEAST;
  }

  int copy(int s, int i, int t, int j, int n) {
    if (!in(s, 0, 3) || !in(t, 0, 3)) return -2;
    if (sheets[s] == null || sheets[t] == null) return lost();
    try {
      System.arraycopy(sheets[s], i, sheets[t], j, n);
      return 1;
    } catch (ArrayStoreException e) {
      finding = 4;
    } catch (IndexOutOfBoundsException e) {
      finding = 2;
    }
    return -10 - finding;
  }

  int write(int h, int s) {
    if (!isHour(h) || !in(s, 0, 3)) return -2;
    if (sheets[s] == null) return lost();
    int n = java.lang.reflect.Array.getLength(sheets[s]);
    for (int i = 0; i < n; i++) {
      byte light = (byte) lightAt(h + i);
      java.lang.reflect.Array.setByte(sheets[s], i, light);
    }
    return n;
  }

  int count(int what) {
    switch (what) {
      case 0: case 1: return texts[what].length();
      case 2: return diary().length();
      case 3: return diary().replace(".", "").length();
      case 4: return calendar().size();
      case 5: return calendar().stream().mapToInt(Integer::intValue).sum();
      case 6: return round();
      case 7: return Arrays.stream(worth).sum();
      case 8: return finding;
      default: return -2;
    }
  }

  long digest() {
    List<Long> all = new ArrayList<>();
    for (int i = 0; i < 8; i++) all.add((long) count(i));
    all.add((long) fault(0));
    all.add((long) fault(1));
    all.add((long) light(0));
    all.add((long) light(7));
    all.add((long) light(999));
    all.add((long) lasts(7));
    for (int l = 0; l < 4; l++) {
      all.add((long) next(50, l));
      for (int w = 0; w < 3; w++) all.add((long) spells(l, w));
    }
    for (int s = 0; s < 2; s++) {
      all.add((long) without(s));
      all.add((long) place(s, 77));
      all.add((long) drift(s, 9));
      for (int w = 0; w < 2; w++) all.add((long) shortest(s, 4, 20, w));
      for (int w = 0; w < 2; w++) all.add(clouds(s, 3, 5, 4, w));
    }
    for (int w = 0; w < 2; w++) all.add((long) together(7, 2, 9, w));
    for (int w = 0; w < 2; w++) all.add((long) dials(1, 2, w));
    for (int w = 0; w < 2; w++) all.add((long) fits(w));
    for (int w = 0; w < 2; w++) all.add((long) watch(w));
    all.add((long) price(2));
    for (int p = 0; p < 4; p++) all.add((long) crop(p, 5));
    for (int w = 0; w < 2; w++) all.add((long) planting(1, 12, w));
    long h = 17;
    for (long v : all) h = 31 * h + v;
    return h;
  }
}
