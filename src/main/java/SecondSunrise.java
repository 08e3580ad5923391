/** A land under two suns: their light, calendars, people, diaries, plants, clouds and sheets. */
public final class SecondSunrise {
    public static final int NONE = -1, BAD = -2, NOT = -3, FULL = -4;

    private static final int LAST_HOUR = 1000000000;
    private static final int LEAST_TURN = 2;
    private static final int MOST_TURN = 40;
    private static final int LIGHTS = 4;
    private static final int BOTH_SUNS = 3;

    private static final int DIARY_BYTES = 60;
    private static final int CALENDAR_BYTES = 20;
    private static final int MOST_MONTHS = 6;
    private static final int BYTES_A_MONTH = 3;
    private static final int MOST_DRIFT_MONTHS = 60;
    private static final int SHORTEST_MONTHS = 24;
    private static final int LONGEST_OF_TWO = 40;

    private static final int PEOPLE = 6;
    private static final int ALL_LIGHTS = 15;
    private static final int FIRST_WORTH = 10;

    private static final int PLANTS = 4;
    private static final int MOST_GROWTH = 9;
    private static final int MOST_PLANTING = 60;
    private static final int MOST_CLOUD_HOURS = 14;

    private static final int SHEETS = 4;
    private static final int MOST_ITEMS = 48;
    private static final int LOST = -1;
    private static final int BYTES = 0;
    private static final int SHORTS = 1;
    private static final int INTS = 2;

    private static final int NO_FINDING = 0;
    private static final int NULL = 1;
    private static final int INDEX = 2;
    private static final int CAST = 3;
    private static final int STORE = 4;
    private static final int SIZE = 5;

    private final Sun red = new Sun(8, 5);
    private final Sun blue = new Sun(13, 6);
    private final Sky sky = new Sky(red, blue);
    private final Diary diary = new Diary();
    private final Calendar calendar = new Calendar();
    private final int[] awakeIn = new int[PEOPLE];
    private final int[] worths = new int[PEOPLE];
    private final Plant[] plants = new Plant[PLANTS];
    private final Sheet[] sheets = new Sheet[SHEETS];
    private final int[] bestFrom = new int[MOST_PLANTING + 1];
    private int latestFinding = NO_FINDING;

    public SecondSunrise() {
        for (int i = 0; i < PEOPLE; i++) {
            awakeIn[i] = ALL_LIGHTS;
            worths[i] = FIRST_WORTH;
        }
        for (int i = 0; i < PLANTS; i++) {
            plants[i] = new Plant();
        }
        for (int i = 0; i < SHEETS; i++) {
            sheets[i] = new Sheet();
        }
    }

    // ---- suns, texts

    public int sun(int sun, int what, int v) {
        Sun it = sunOf(sun);
        if (it == null) {
            return BAD;
        }
        switch (what) {
            case 0:
                return outside(v, LEAST_TURN, MOST_TURN) ? BAD : it.changeTurn(v);
            case 1:
                return outside(v, 0, it.turn - 1) ? BAD : it.changePhase(v);
            case 2:
                return outside(v, 0, it.turn) ? BAD : it.changeUp(v);
            default:
                return BAD;
        }
    }

    public int type(int text, int b) {
        Text it = textOf(text);
        if (it == null || outside(b, 0, 255)) {
            return BAD;
        }
        return it.append(b) ? it.size : FULL;
    }

    public int wipe(int text) {
        Text it = textOf(text);
        if (it == null) {
            return BAD;
        }
        int had = it.size;
        it.size = 0;
        return had;
    }

    public int undo(int text) {
        Text it = textOf(text);
        if (it == null) {
            return BAD;
        }
        if (it.size == 0) {
            return NOT;
        }
        it.size--;
        return it.size;
    }

    public int fault(int text) {
        Text it = textOf(text);
        return it == null ? BAD : it.firstFault();
    }

    // ---- what is up

    public int light(int hour) {
        return noHour(hour) ? BAD : sky.lightIn(hour);
    }

    public int place(int sun, int hour) {
        Sun it = sunOf(sun);
        return it == null || noHour(hour) ? BAD : it.placeIn(hour);
    }

    public int round() {
        return sky.hoursOfRound();
    }

    public int next(int hour, int light) {
        return noHour(hour) || noLight(light) ? BAD : sky.firstWith(hour, light);
    }

    public int lasts(int hour) {
        return noHour(hour) ? BAD : sky.unchangedFrom(hour);
    }

    public int spells(int light, int what) {
        if (noLight(light)) {
            return BAD;
        }
        switch (what) {
            case 0:
                return sky.hoursWith(light);
            case 1:
                return sky.rowsOf(light);
            case 2:
                return sky.longestRowOf(light);
            default:
                return BAD;
        }
    }

    public int without(int sun) {
        Sun it = sunOf(sun);
        if (it == null) {
            return BAD;
        }
        return it.up == 0 ? sky.hoursOfRound() : it.turn - it.up;
    }

    // ---- calendars, people

    public int month(int month) {
        return outside(month, 0, calendar.months() - 1) ? BAD : calendar.lengthOf(month);
    }

    public int drift(int sun, int n) {
        Sun it = sunOf(sun);
        if (it == null || outside(n, 1, MOST_DRIFT_MONTHS)) {
            return BAD;
        }
        int months = calendar.months();
        return it.up == 0 || months < 1 ? NOT : driftByCalendar(it, n, months);
    }

    public int shortest(int sun, int most, int hours, int what) {
        Sun it = sunOf(sun);
        if (it == null || outside(most, 0, 20) || outside(hours, 2, 80) || outside(what, 0, 1)) {
            return BAD;
        }
        if (it.up == 0) {
            return NOT;
        }
        if (driftByTwo(it, hours, hours) <= most) {
            return what == 0 ? hours : 0;
        }
        int first = firstOfTwo(it, most, hours);
        return first == NONE || what == 0 ? first : hours - first;
    }

    public int awake(int person, int lights) {
        if (noPerson(person) || outside(lights, 0, ALL_LIGHTS)) {
            return BAD;
        }
        int was = awakeIn[person];
        awakeIn[person] = lights;
        return was;
    }

    public int together(int people, int hour, int n, int what) {
        if (outside(people, 0, (1 << PEOPLE) - 1) || noHour(hour)
                || outside(n, 1, 100) || outside(what, 0, 1)) {
            return BAD;
        }
        int lights = lightsOfAll(people);
        return what == 0 ? sky.hoursWithin(lights, hour, n) : sky.bestStart(lights, hour, n);
    }

    // ---- dials, diaries

    public int dials(int red, int blue, int what) {
        if (outside(red, NONE, MOST_TURN - 1) || outside(blue, NONE, MOST_TURN - 1)
                || outside(what, 0, 1)) {
            return BAD;
        }
        return what == 0 ? sky.hoursByDials(red, blue) : sky.firstByDials(red, blue);
    }

    public int fits(int what) {
        if (outside(what, 0, 1)) {
            return BAD;
        }
        findFittingPhases();
        int all = red.fittingPhases() * blue.fittingPhases();
        if (what == 0) {
            return all;
        }
        return all == 0 ? NONE : 40 * red.firstFittingPhase() + blue.firstFittingPhase();
    }

    public int watch(int what) {
        if (outside(what, 0, 1)) {
            return BAD;
        }
        findFittingPhases();
        if (red.fittingPhases() == 0 || blue.fittingPhases() == 0) {
            return NOT;
        }
        red.findLeftAtWorst();
        blue.findLeftAtWorst();
        int hour = sky.hourToWatch(diary.hours());
        return what == 0 ? hour : sky.leftAtWorst(hour);
    }

    // ---- rooms, plants, clouds

    public int worth(int person, int v) {
        if (noPerson(person) || outside(v, 0, 99)) {
            return BAD;
        }
        int was = worths[person];
        worths[person] = v;
        return was;
    }

    public int price(int rooms) {
        if (outside(rooms, 0, PEOPLE)) {
            return BAD;
        }
        for (int i = 0; i < PEOPLE; i++) {
            if (wantsDark(i) && aheadInBidding(i) == rooms) {
                return worths[i];
            }
        }
        return 0;
    }

    public int plant(int plant, int hours) {
        Plant it = plantOf(plant);
        if (it == null || outside(hours, 1, 20)) {
            return BAD;
        }
        int was = it.hours;
        it.hours = hours;
        return was;
    }

    public int grows(int plant, int light, int v) {
        Plant it = plantOf(plant);
        if (it == null || noLight(light) || noGrowth(v)) {
            return BAD;
        }
        int was = it.growth[light];
        it.growth[light] = v;
        return was + 10;
    }

    public int read(int s, int plant) {
        Sheet row = sheetOf(s);
        Plant it = plantOf(plant);
        if (row == null || it == null) {
            return BAD;
        }
        if (row.form == LOST) {
            return found(NULL);
        }
        int done = 0;
        while (done < LIGHTS && done < row.size && !noGrowth(row.items[done])) {
            it.growth[done] = row.items[done];
            done++;
        }
        return done;
    }

    public int crop(int plant, int hour) {
        Plant it = plantOf(plant);
        return it == null || noHour(hour) ? BAD : it.yieldFrom(sky, hour);
    }

    public int planting(int hour, int n, int what) {
        if (noHour(hour) || outside(n, 0, MOST_PLANTING) || outside(what, 0, 1)) {
            return BAD;
        }
        findBest(hour, n);
        return what == 0 ? bestFrom[0] : firstToPlant(hour, n);
    }

    public long clouds(int sun, int hour, int n, int sixteenths, int what) {
        Sun it = sunOf(sun);
        if (it == null || noHour(hour) || outside(n, 0, MOST_CLOUD_HOURS)
                || outside(sixteenths, 0, 16) || outside(what, 0, 1)) {
            return Long.MIN_VALUE - BAD;
        }
        long hidden = 1;
        long below = 1;
        for (int i = 0; i < n; i++) {
            if (it.isUpIn(hour + i)) {
                hidden *= sixteenths;
                below *= 16;
            }
        }
        return lowestTerms(below - hidden, below, what);
    }

    // ---- sheets

    public int sheet(int s, int form, int n) {
        Sheet row = sheetOf(s);
        if (row == null || noForm(form) || n > MOST_ITEMS) {
            return BAD;
        }
        if (n < 0) {
            return found(SIZE);
        }
        row.begin(form, n);
        return n;
    }

    public int lose(int s) {
        Sheet row = sheetOf(s);
        if (row == null) {
            return BAD;
        }
        if (row.form == LOST) {
            return found(NULL);
        }
        row.form = LOST;
        return row.size;
    }

    public int put(int s, int form, int i, int v) {
        Sheet row = sheetOf(s);
        if (row == null || noForm(form)) {
            return BAD;
        }
        int finding = row.findingOf(form, i);
        if (finding != NO_FINDING) {
            return found(finding);
        }
        row.items[i] = row.lowestBits(v);
        return 1;
    }

    public int get(int s, int form, int i) {
        Sheet row = sheetOf(s);
        if (row == null || noForm(form)) {
            return Integer.MIN_VALUE;
        }
        int finding = row.findingOf(form, i);
        if (finding != NO_FINDING) {
            found(finding);
            return Integer.MIN_VALUE;
        }
        return row.items[i];
    }

    public int copy(int s, int i, int t, int j, int n) {
        Sheet from = sheetOf(s);
        Sheet to = sheetOf(t);
        if (from == null || to == null) {
            return BAD;
        }
        if (from.form == LOST || to.form == LOST) {
            return found(NULL);
        }
        if (from.form != to.form) {
            return found(STORE);
        }
        if (!from.holds(i, n) || !to.holds(j, n)) {
            return found(INDEX);
        }
        System.arraycopy(from.items, i, to.items, j, n);
        return 1;
    }

    public int write(int hour, int s) {
        Sheet row = sheetOf(s);
        if (row == null || noHour(hour)) {
            return BAD;
        }
        if (row.form == LOST) {
            return found(NULL);
        }
        for (int i = 0; i < row.size; i++) {
            row.items[i] = sky.lightIn(hour + i);
        }
        return row.size;
    }

    public int count(int what) {
        switch (what) {
            case 0:
                return diary.size;
            case 1:
                return calendar.size;
            case 2:
                return diary.hours();
            case 3:
                return diary.hoursLooked();
            case 4:
                return calendar.months();
            case 5:
                return calendar.hoursOfAll();
            case 6:
                return sky.hoursOfRound();
            case 7:
                return allWorths();
            case 8:
                return latestFinding;
            default:
                return BAD;
        }
    }

    public long digest() {
        long h = 17;
        for (int what = 0; what <= 7; what++) {
            h = mixed(h, count(what));
        }
        h = mixed(h, fault(0));
        h = mixed(h, fault(1));
        h = mixed(h, light(0));
        h = mixed(h, light(7));
        h = mixed(h, light(999));
        h = mixed(h, lasts(7));
        h = mixedLights(h);
        h = mixedSuns(h);
        for (int what = 0; what <= 1; what++) {
            h = mixed(h, together(7, 2, 9, what));
        }
        for (int what = 0; what <= 1; what++) {
            h = mixed(h, dials(1, 2, what));
        }
        for (int what = 0; what <= 1; what++) {
            h = mixed(h, fits(what));
        }
        for (int what = 0; what <= 1; what++) {
            h = mixed(h, watch(what));
        }
        h = mixed(h, price(2));
        for (int plant = 0; plant < PLANTS; plant++) {
            h = mixed(h, crop(plant, 5));
        }
        for (int what = 0; what <= 1; what++) {
            h = mixed(h, planting(1, 12, what));
        }
        return h;
    }

    private long mixedLights(long before) {
        long h = before;
        for (int light = 0; light < LIGHTS; light++) {
            h = mixed(h, next(50, light));
            for (int what = 0; what <= 2; what++) {
                h = mixed(h, spells(light, what));
            }
        }
        return h;
    }

    private long mixedSuns(long before) {
        long h = before;
        for (int sun = 0; sun <= 1; sun++) {
            h = mixed(h, without(sun));
            h = mixed(h, place(sun, 77));
            h = mixed(h, drift(sun, 9));
            h = mixed(h, shortest(sun, 4, 20, 0));
            h = mixed(h, shortest(sun, 4, 20, 1));
            h = mixed(h, clouds(sun, 3, 5, 4, 0));
            h = mixed(h, clouds(sun, 3, 5, 4, 1));
        }
        return h;
    }

    private static long mixed(long h, long v) {
        return 31 * h + v;
    }

    // ---- what a number names: null where there is no such thing

    private Sun sunOf(int sun) {
        if (sun == 0) {
            return red;
        }
        return sun == 1 ? blue : null;
    }

    private Text textOf(int text) {
        if (text == 0) {
            return diary;
        }
        return text == 1 ? calendar : null;
    }

    private Plant plantOf(int plant) {
        return outside(plant, 0, PLANTS - 1) ? null : plants[plant];
    }

    private Sheet sheetOf(int s) {
        return outside(s, 0, SHEETS - 1) ? null : sheets[s];
    }

    private static boolean outside(int v, int least, int most) {
        return v < least || v > most;
    }

    private static boolean noHour(int hour) {
        return outside(hour, 0, LAST_HOUR);
    }

    private static boolean noLight(int light) {
        return outside(light, 0, LIGHTS - 1);
    }

    private static boolean noPerson(int person) {
        return outside(person, 0, PEOPLE - 1);
    }

    private static boolean noGrowth(int v) {
        return outside(v, -MOST_GROWTH, MOST_GROWTH);
    }

    private static boolean noForm(int form) {
        return outside(form, BYTES, INTS);
    }

    private int found(int finding) {
        latestFinding = finding;
        return -10 - finding;
    }

    // ---- calendars

    private int driftByCalendar(Sun sun, int n, int months) {
        int worst = 0;
        int start = 0;
        int month = 0;
        for (int k = 0; k < n; k++) {
            worst = Math.max(worst, sun.awayFromRise(start));
            start += calendar.lengthOf(month);
            month = month + 1 < months ? month + 1 : 0;
        }
        return worst;
    }

    /** A calendar of one month is one of two like ones. */
    private static int driftByTwo(Sun sun, int first, int second) {
        int worst = 0;
        int start = 0;
        for (int k = 0; k < SHORTEST_MONTHS; k++) {
            worst = Math.max(worst, sun.awayFromRise(start));
            start += (k & 1) == 0 ? first : second;
        }
        return worst;
    }

    private static int firstOfTwo(Sun sun, int most, int hours) {
        int least = Math.max(1, hours - LONGEST_OF_TWO);
        int greatest = Math.min(LONGEST_OF_TWO, hours - 1);
        for (int first = least; first <= greatest; first++) {
            if (driftByTwo(sun, first, hours - first) <= most) {
                return first;
            }
        }
        return NONE;
    }

    // ---- people

    private int lightsOfAll(int people) {
        int lights = ALL_LIGHTS;
        for (int i = 0; i < PEOPLE; i++) {
            if (((people >> i) & 1) == 1) {
                lights &= awakeIn[i];
            }
        }
        return lights;
    }

    private boolean wantsDark(int person) {
        return ((awakeIn[person] >> BOTH_SUNS) & 1) == 0;
    }

    /** Of those who would pay alike the lesser person goes first, so that no two stand in one place. */
    private int aheadInBidding(int person) {
        int ahead = 0;
        for (int i = 0; i < PEOPLE; i++) {
            boolean paysMore = worths[i] > worths[person]
                    || (worths[i] == worths[person] && i < person);
            if (wantsDark(i) && paysMore) {
                ahead++;
            }
        }
        return ahead;
    }

    private int allWorths() {
        int all = 0;
        for (int i = 0; i < PEOPLE; i++) {
            all += worths[i];
        }
        return all;
    }

    // ---- diaries

    private void findFittingPhases() {
        int hours = diary.hours();
        red.findFitting(diary, hours, 0);
        blue.findFitting(diary, hours, 1);
    }

    // ---- plants, clouds

    /** Fills bestFrom[k], the most that can come of hours k to n: from the end on, as it is known there. */
    private void findBest(int hour, int n) {
        bestFrom[n] = 0;
        for (int k = n - 1; k >= 0; k--) {
            int best = bestFrom[k + 1];
            for (int i = 0; i < PLANTS; i++) {
                best = Math.max(best, bestWith(i, hour, k, n));
            }
            bestFrom[k] = best;
        }
    }

    /** What comes of hours k to n, if that plant is the first; NONE if it is not ripe by the end. */
    private int bestWith(int plant, int hour, int k, int n) {
        Plant it = plantOf(plant);
        if (it == null || k + it.hours > n) {
            return NONE;
        }
        return it.yieldFrom(sky, hour + k) + bestFrom[k + it.hours];
    }

    private int firstToPlant(int hour, int n) {
        if (n == 0 || bestFrom[0] == bestFrom[1]) {
            return NONE;
        }
        for (int i = 0; i < PLANTS; i++) {
            if (bestWith(i, hour, 0, n) == bestFrom[0]) {
                return i;
            }
        }
        return NONE;
    }

    /** Below is a power of 2 (2 to the 56th at most), so that halving alone is enough. */
    private static long lowestTerms(long above, long below, int what) {
        if (above == 0) {
            return what == 0 ? 0 : 1;
        }
        long a = above;
        long b = below;
        for (int i = 0; i < 4 * MOST_CLOUD_HOURS && (a & 1) == 0; i++) {
            a >>= 1;
            b >>= 1;
        }
        return what == 0 ? a : b;
    }

    private static final class Sun {
        int turn;
        int phase = 0;
        int up;
        private final boolean[] fitting = new boolean[MOST_TURN];
        private final int[] worstLeft = new int[MOST_TURN];

        Sun(int turn, int up) {
            this.turn = turn;
            this.up = up;
        }

        int changeTurn(int v) {
            int was = turn;
            turn = v;
            phase = placeBy(0, phase);
            up = Math.min(up, v);
            return was;
        }

        int changePhase(int v) {
            int was = phase;
            phase = v;
            return was;
        }

        int changeUp(int v) {
            int was = up;
            up = v;
            return was;
        }

        int placeIn(int hour) {
            return turn < LEAST_TURN ? 0 : (hour + phase) % turn;
        }

        /** The place in an hour, if the phase were p. */
        private int placeBy(int p, int hour) {
            return turn < LEAST_TURN ? 0 : (hour + p) % turn;
        }

        boolean isUpIn(int hour) {
            return placeIn(hour) < up;
        }

        int shownIn(int hour) {
            int there = placeIn(hour);
            return there < up ? there : NONE;
        }

        int awayFromRise(int hour) {
            int behind = placeIn(hour);
            return Math.min(behind, turn - behind);
        }

        /** A letter tells of each sun by itself (bit 0 red, 1 blue), so each sun's phases fit by themselves. */
        void findFitting(Diary diary, int hours, int bit) {
            for (int p = 0; p < turn && p < MOST_TURN; p++) {
                fitting[p] = fitsWith(p, diary, hours, bit);
            }
        }

        private boolean fitsWith(int p, Diary diary, int hours, int bit) {
            for (int hour = 0; hour < hours; hour++) {
                int seen = diary.seenIn(hour);
                boolean seenUp = ((seen >> bit) & 1) == 1;
                if (seen != NONE && seenUp != (placeBy(p, hour) < up)) {
                    return false;
                }
            }
            return true;
        }

        int fittingPhases() {
            int all = 0;
            for (int p = 0; p < turn && p < MOST_TURN; p++) {
                if (fitting[p]) {
                    all++;
                }
            }
            return all;
        }

        int firstFittingPhase() {
            for (int p = 0; p < turn && p < MOST_TURN; p++) {
                if (fitting[p]) {
                    return p;
                }
            }
            return NONE;
        }

        /** What is left depends on the hour modulo TURN alone, so a row of TURN items tells it of all hours. */
        void findLeftAtWorst() {
            int all = fittingPhases();
            for (int hour = 0; hour < turn && hour < MOST_TURN; hour++) {
                int ups = 0;
                for (int p = 0; p < turn && p < MOST_TURN; p++) {
                    if (fitting[p] && placeBy(p, hour) < up) {
                        ups++;
                    }
                }
                worstLeft[hour] = Math.max(ups, all - ups);
            }
        }

        int leftAtWorst(int hour) {
            int i = placeBy(0, hour);
            return i < 0 || i >= MOST_TURN ? 0 : worstLeft[i];
        }
    }

    private static final class Sky {
        private final Sun red;
        private final Sun blue;

        Sky(Sun red, Sun blue) {
            this.red = red;
            this.blue = blue;
        }

        int lightIn(int hour) {
            return (red.placeIn(hour) < red.up ? 1 : 0) + (blue.placeIn(hour) < blue.up ? 2 : 0);
        }

        int hoursOfRound() {
            int hours = red.turn;
            for (int k = 1; k < MOST_TURN && blue.turn > 0 && hours % blue.turn != 0; k++) {
                hours += red.turn;
            }
            return hours;
        }

        int firstWith(int hour, int light) {
            int round = hoursOfRound();
            for (int k = 0; k < round; k++) {
                if (lightIn(hour + k) == light) {
                    return hour + k;
                }
            }
            return NONE;
        }

        int unchangedFrom(int hour) {
            int round = hoursOfRound();
            int light = lightIn(hour);
            int hours = 0;
            while (hours < round && lightIn(hour + hours) == light) {
                hours++;
            }
            return hours;
        }

        int hoursWith(int light) {
            int round = hoursOfRound();
            int hours = 0;
            for (int hour = 0; hour < round; hour++) {
                if (lightIn(hour) == light) {
                    hours++;
                }
            }
            return hours;
        }

        /** Counts the ends of rows: a light that is there and never ends is there always. */
        int rowsOf(int light) {
            int round = hoursOfRound();
            int rows = 0;
            for (int hour = 0; hour < round; hour++) {
                if (lightIn(hour) == light && lightIn(hour + 1) != light) {
                    rows++;
                }
            }
            return rows == 0 && lightIn(0) == light ? 1 : rows;
        }

        /** Goes through two rounds, so that a row across the end of the first one is seen whole. */
        int longestRowOf(int light) {
            int round = hoursOfRound();
            int longest = 0;
            int row = 0;
            for (int hour = 0; hour < 2 * round; hour++) {
                row = lightIn(hour) == light ? row + 1 : 0;
                longest = Math.max(longest, row);
            }
            return Math.min(longest, round);
        }

        /** 1 if the light of an hour is one of these (bits), else 0. */
        private int hasOneOf(int lights, int hour) {
            return (lights >> lightIn(hour)) & 1;
        }

        int hoursWithin(int lights, int hour, int n) {
            int hours = 0;
            for (int k = 0; k < n; k++) {
                hours += hasOneOf(lights, hour + k);
            }
            return hours;
        }

        int bestStart(int lights, int hour, int n) {
            int round = hoursOfRound();
            int now = hoursWithin(lights, hour, n);
            int most = now;
            int best = hour;
            for (int start = hour + 1; start < hour + round; start++) {
                now += hasOneOf(lights, start + n - 1) - hasOneOf(lights, start - 1);
                if (now > most) {
                    most = now;
                    best = start;
                }
            }
            return best;
        }

        private boolean dialsShow(int redPlace, int bluePlace, int hour) {
            return red.shownIn(hour) == redPlace && blue.shownIn(hour) == bluePlace;
        }

        int hoursByDials(int redPlace, int bluePlace) {
            int round = hoursOfRound();
            int hours = 0;
            for (int hour = 0; hour < round; hour++) {
                if (dialsShow(redPlace, bluePlace, hour)) {
                    hours++;
                }
            }
            return hours;
        }

        int firstByDials(int redPlace, int bluePlace) {
            int round = hoursOfRound();
            for (int hour = 0; hour < round; hour++) {
                if (dialsShow(redPlace, bluePlace, hour)) {
                    return hour;
                }
            }
            return NONE;
        }

        /** The suns' phases fit by themselves: of their pairs the worst leaves both suns' worst. */
        int leftAtWorst(int hour) {
            return red.leftAtWorst(hour) * blue.leftAtWorst(hour);
        }

        int hourToWatch(int from) {
            int round = hoursOfRound();
            int best = from;
            int fewest = leftAtWorst(from);
            for (int hour = from + 1; hour < from + round; hour++) {
                int left = leftAtWorst(hour);
                if (left < fewest) {
                    fewest = left;
                    best = hour;
                }
            }
            return best;
        }
    }

    private abstract static class Text {
        final int[] bytes;
        int size = 0;

        Text(int most) {
            bytes = new int[most < 0 ? 0 : most];
        }

        boolean append(int b) {
            if (size < 0 || size >= bytes.length) {
                return false;
            }
            bytes[size] = b;
            size++;
            return true;
        }

        /** The byte at a place; NONE where there is none. */
        int byteAt(int i) {
            return i < 0 || i >= size || i >= bytes.length ? NONE : bytes[i];
        }

        abstract int firstFault();
    }

    private static final class Diary extends Text {
        Diary() {
            super(DIARY_BYTES);
        }

        int firstFault() {
            for (int i = 0; i < size; i++) {
                if (byteAt(i) != '.' && seenIn(i) == NONE) {
                    return i;
                }
            }
            return NONE;
        }

        /** The light that was seen in an hour; NONE if nobody looked. */
        int seenIn(int hour) {
            switch (byteAt(hour)) {
                case 'n':
                    return 0;
                case 'r':
                    return 1;
                case 'b':
                    return 2;
                case 'd':
                    return 3;
                default:
                    return NONE;
            }
        }

        int hours() {
            return firstFault() == NONE ? size : 0;
        }

        int hoursLooked() {
            int all = hours();
            int looked = 0;
            for (int hour = 0; hour < all; hour++) {
                if (seenIn(hour) != NONE) {
                    looked++;
                }
            }
            return looked;
        }
    }

    private static final class Calendar extends Text {
        Calendar() {
            super(CALENDAR_BYTES);
        }

        int firstFault() {
            for (int i = 0; i < size; i++) {
                if (i >= MOST_MONTHS * BYTES_A_MONTH || !goesOnAt(i)) {
                    return i;
                }
            }
            boolean ended = size == 0 || size % BYTES_A_MONTH == 2;
            return ended ? NONE : size;
        }

        private boolean goesOnAt(int i) {
            int b = byteAt(i);
            switch (i % BYTES_A_MONTH) {
                case 0:
                    return isFigure(b);
                case 1:
                    return isFigure(b) && (b != '0' || byteAt(i - 1) != '0');
                default:
                    return b == ';';
            }
        }

        private static boolean isFigure(int b) {
            return b >= '0' && b <= '9';
        }

        int months() {
            return firstFault() == NONE ? (size + 1) / BYTES_A_MONTH : 0;
        }

        int lengthOf(int month) {
            int i = BYTES_A_MONTH * month;
            return 10 * (byteAt(i) - '0') + byteAt(i + 1) - '0';
        }

        int hoursOfAll() {
            int months = months();
            int hours = 0;
            for (int month = 0; month < months; month++) {
                hours += lengthOf(month);
            }
            return hours;
        }
    }

    private static final class Plant {
        int hours = 4;
        final int[] growth = {0, 1, 1, 2};

        int yieldFrom(Sky sky, int hour) {
            int all = 0;
            for (int k = 0; k < hours; k++) {
                int light = sky.lightIn(hour + k);
                if (light >= 0 && light < growth.length) {
                    all += growth[light];
                }
            }
            return Math.max(all, 0);
        }
    }

    /** One row serves all forms: what is put into it is cut to the form's bits. */
    private static final class Sheet {
        int form = LOST;
        int size = 0;
        final int[] items = new int[MOST_ITEMS];

        void begin(int newForm, int n) {
            form = newForm;
            size = n;
            for (int i = 0; i < MOST_ITEMS; i++) {
                items[i] = 0;
            }
        }

        int findingOf(int treatedAs, int i) {
            if (form == LOST) {
                return NULL;
            }
            if (form != treatedAs) {
                return CAST;
            }
            return i < 0 || i >= size ? INDEX : NO_FINDING;
        }

        int lowestBits(int v) {
            if (form == BYTES) {
                return (byte) v;
            }
            return form == SHORTS ? (short) v : v;
        }

        boolean holds(int i, int n) {
            return i >= 0 && n >= 0 && i <= size && n <= size - i;
        }
    }
}
