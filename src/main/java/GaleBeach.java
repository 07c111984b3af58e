import java.util.Arrays;

/** After the gale: a beach, what the sea brings to it, and what may be known of that. */
public final class GaleBeach {
    public static final int BAD = -1, NO = -2, FULL = -3, NONE = -4;

    private static final int MOST_BYTES = 400;
    private static final int LAST_HOUR = 999;
    private static final int BEST_EYES = 9;
    private static final int FULL_SHARE = 10;
    private static final int FARTHEST_OFF = 99;
    private static final int CELL_WIDTH = 10;
    private static final int MOST_CELLS = 16;
    private static final int MOST_KINDS = 6;
    private static final int MOST_LOSSES = 8;
    private static final int MOST_FINDS = 12;
    private static final int MOST_REPORTS = 24;
    private static final int MOST_NUMBERS = 20;
    private static final int MOST_KEPT = 2;
    private static final int MOST_WALKS = 3;

    private final Scroll scroll = new Scroll();
    private final Landings landings = new Landings();
    private final Shore shore = new Shore();
    private final Matching matching = new Matching();
    private final Outlook outlook = new Outlook();
    private final Stuffs stuffs = new Stuffs();
    private Beach beach = new Beach();
    private Beach spareBeach = new Beach();
    private Law laidLaw = new Law();
    private Law spareLaw = new Law();

    public GaleBeach() {
    }

    // ---- beaches

    public int write(int n, long v) {
        if (!within(n, 1, 8)) {
            return BAD;
        }
        if (scroll.length + n > MOST_BYTES) {
            return FULL;
        }
        scroll.append(n, v);
        return scroll.length;
    }

    public int wipe() {
        int was = scroll.length;
        scroll.length = 0;
        return was;
    }

    public int fault(boolean law) {
        return law ? spareLaw.readFrom(scroll) : spareBeach.readFrom(scroll);
    }

    public int lay(boolean law) {
        return law ? layLaw() : layBeach();
    }

    private int layLaw() {
        if (spareLaw.readFrom(scroll) != NONE) {
            return NO;
        }
        Law old = laidLaw;
        laidLaw = spareLaw;
        spareLaw = old;
        return laidLaw.rules;
    }

    private int layBeach() {
        if (spareBeach.readFrom(scroll) != NONE) {
            return NO;
        }
        Beach old = beach;
        beach = spareBeach;
        spareBeach = old;
        landings.forget();
        shore.clear();
        return beach.cells;
    }

    public int drift(int x, int y, int h, int s, int what) {
        if (!within(x, 0, CELL_WIDTH * beach.cells - 1) || !within(y, 1, FARTHEST_OFF)
                || !isHour(h) || !within(s, 0, FULL_SHARE) || !within(what, 0, 1)) {
            return BAD;
        }
        landings.release(beach, x, y, h, s);
        if (landings.cell == Landings.GONE) {
            return NONE;
        }
        return what == 0 ? landings.cell : landings.hour;
    }

    public int worlds(int loss, int what) {
        if (!isLoss(loss) || !within(what, 0, 2)) {
            return BAD;
        }
        landings.settle(beach, loss);
        int all = beach.worldsOf(loss);
        if (what == 0) {
            return all;
        }
        int gone = landings.howMany(loss, all, Landings.GONE, Landings.GONE, LAST_HOUR);
        return what == 1 ? all - gone : gone;
    }

    public int ashore(int loss, int cell, int a, int b) {
        if (!isLoss(loss) || !isCell(cell) || !isHour(a) || !isHour(b) || a > b) {
            return BAD;
        }
        landings.settle(beach, loss);
        return landings.howMany(loss, beach.worldsOf(loss), cell, a, b);
    }

    // ---- finds, reports

    public int find(int kind, int cell, int hour) {
        if (!isKind(kind) || !isCell(cell) || !isHour(hour)) {
            return BAD;
        }
        if (shore.finds >= MOST_FINDS) {
            return FULL;
        }
        return shore.addFind(kind, cell, hour);
    }

    public int from(int find) {
        return within(find, 0, shore.finds - 1) ? lossesBehind(find) : BAD;
    }

    /** FROM of a FIND that there is, as bits. */
    private int lossesBehind(int find) {
        int bits = 0;
        for (int loss = 0; loss < beach.losses; loss++) {
            if (beach.lossKind[loss] == shore.findKind[find]) {
                landings.settle(beach, loss);
                if (landings.howMany(loss, beach.worldsOf(loss), shore.findCell[find], 0, shore.findHour[find]) > 0) {
                    bits |= 1 << loss;
                }
            }
        }
        return bits;
    }

    public int parted(int find) {
        if (!within(find, -1, shore.finds - 1)) {
            return BAD;
        }
        // more FINDS than there can be LOSSES: two would be of one
        if (shore.finds > MOST_LOSSES) {
            return NONE;
        }
        for (int i = 0; i < shore.finds; i++) {
            matching.choices[i] = lossesBehind(i);
        }
        if (!matching.solve(shore.finds)) {
            return NONE;
        }
        return find < 0 ? 1 : matching.choiceOf(find);
    }

    public int report(int cell, int hour, int eyes, int kind, boolean saw) {
        if (!isCell(cell) || !isHour(hour) || !isEyes(eyes) || !isKind(kind)) {
            return BAD;
        }
        if (shore.reports >= MOST_REPORTS) {
            return FULL;
        }
        return shore.addReport(cell, hour, eyes, kind, saw);
    }

    public int there(int kind, int cell, int hour) {
        if (!isKind(kind) || !isCell(cell) || !isHour(hour)) {
            return BAD;
        }
        if (shore.sawBy(kind, cell, hour)) {
            return 1;
        }
        return shore.sawNoneFrom(kind, cell, hour, beach.kindEyes[kind]) ? 2 : 0;
    }

    public int missed(int what) {
        if (!within(what, 0, 1)) {
            return BAD;
        }
        int bits = 0;
        for (int i = 0; i < shore.reports; i++) {
            int kind = shore.reportKind[i];
            boolean goodEyes = shore.reportEyes[i] >= beach.kindEyes[kind];
            if (!shore.reportSaw[i] && goodEyes == (what == 1)
                    && shore.sawBy(kind, shore.reportCell[i], shore.reportHour[i])) {
                bits |= 1 << i;
            }
        }
        return bits;
    }

    public int left(int loss) {
        if (!isLoss(loss)) {
            return BAD;
        }
        outlook.readReports(beach, shore);
        landings.settle(beach, loss);
        outlook.weigh(beach, landings, loss, LAST_HOUR);
        return outlook.remaining[loss];
    }

    public long hope(int a, int b, int hour, int eyes) {
        if (!isCell(a) || !isCell(b) || a > b || !isHour(hour) || !isEyes(eyes)) {
            return BAD;
        }
        weighLosses(hour);
        return outlook.sumOver(beach, a, b, eyes);
    }

    public long walk(int n, int hour, int eyes, int what) {
        if (!within(n, 1, beach.cells) || !isHour(hour) || !isEyes(eyes) || !within(what, 0, 1)) {
            return BAD;
        }
        weighLosses(hour);
        outlook.weighStretches(beach, n, eyes);
        int begin = outlook.bestStretch(beach.cells - n);
        return what == 0 ? begin : outlook.stretch[begin];
    }

    public long walks(int n, int m, int hour, int eyes, int i) {
        if (!within(n, 1, beach.cells) || !within(m, 1, MOST_WALKS) || !isHour(hour) || !isEyes(eyes) || i < -1) {
            return BAD;
        }
        if (i >= m || n * m > beach.cells) {
            return NONE;
        }
        weighLosses(hour);
        outlook.weighStretches(beach, n, eyes);
        outlook.joinStretches(beach.cells, n, m);
        return i < 0 ? outlook.joined[m][0] : outlook.beginOf(beach.cells, n, m, i);
    }

    private void weighLosses(int hour) {
        outlook.readReports(beach, shore);
        for (int loss = 0; loss < beach.losses; loss++) {
            landings.settle(beach, loss);
            outlook.weigh(beach, landings, loss, hour);
        }
    }

    // ---- numbers, glass

    public int number(int v) {
        if (!within(v, 1, 9999)) {
            return BAD;
        }
        if (shore.hasNumber(v)) {
            return NO;
        }
        if (shore.numbers >= MOST_NUMBERS) {
            return FULL;
        }
        return shore.addNumber(v);
    }

    public int fell(int what) {
        if (!within(what, 0, 2)) {
            return BAD;
        }
        int k = shore.numbers;
        if (k < 1) {
            return NO;
        }
        int greatest = shore.greatestNumber();
        if (what == 0) {
            return greatest;
        }
        int above = greatest * k + greatest - k;
        return what == 1 ? shortened(above, above, k) : shortened(k, above, k);
    }

    public int most(int a, int b) {
        if (!within(a, 1, 1000) || !within(b, 1, 1000) || a > b) {
            return BAD;
        }
        if (shore.numbers < 1) {
            return NO;
        }
        return greatestLikely(shore.greatestNumber(), shore.numbers, 1000000000L * a / b);
    }

    /** The odds never grow with N, so the greatest N that is likely enough is found by halving. */
    private static int greatestLikely(int greatest, int k, long enough) {
        int low = greatest;
        int high = 99999;
        for (int halvings = 0; halvings < 32 && low < high; halvings++) {
            int middle = high - (high - low) / 2;
            if (oddsOf(greatest, k, middle) >= enough) {
                low = middle;
            } else {
                high = middle - 1;
            }
        }
        return low;
    }

    private static long oddsOf(int greatest, int k, int all) {
        long odds = 1000000000L;
        for (int i = 0; i < k && i < all; i++) {
            odds = odds * (greatest - i) / (all - i);
        }
        return odds;
    }

    /** The part of a fraction divided by the greatest number that divides both its parts. */
    private static int shortened(int part, int above, int below) {
        for (int divisor = below; divisor > 1; divisor--) {
            if (above % divisor == 0 && below % divisor == 0) {
                return part / divisor;
            }
        }
        return part;
    }

    public int glass(int z, int r, int years) {
        if (!isGlass(z, r) || !within(years, 0, 99)) {
            return BAD;
        }
        int size = z;
        for (int year = 0; year < years; year++) {
            size = wornByAYear(size, r);
        }
        return size;
    }

    public int life(int z, int r) {
        if (!isGlass(z, r)) {
            return BAD;
        }
        int size = z;
        int years = 0;
        // at least 1 goes each year
        while (size > 0 && years < z) {
            size = wornByAYear(size, r);
            years++;
        }
        return years;
    }

    private static boolean isGlass(int z, int r) {
        return within(z, 1, 999) && within(r, 0, 99);
    }

    private static int wornByAYear(int size, int r) {
        return Math.max(0, size - (size * r / 100 + 1));
    }

    // ---- laws, finders, tests

    public int whose(int kind, int cell, int hour, int what) {
        if (!isKind(kind) || !isCell(cell) || !isHour(hour) || !within(what, 0, 2)) {
            return BAD;
        }
        int worth = beach.kindWorth[kind];
        int rule = laidLaw.firstThatHolds(worth, kind, cell, hour);
        if (rule < 0) {
            return what == 0 ? 1 : 0;
        }
        if (what == 2) {
            return worth * laidLaw.hundredths[rule] / 100;
        }
        return what == 0 ? laidLaw.owner[rule] : laidLaw.days[rule];
    }

    public int two(int t, int d, int u, int e, int what) {
        if (!isHour(t) || !within(d, 0, 9) || !isHour(u) || !within(e, 0, 9) || !within(what, 0, 3)) {
            return BAD;
        }
        if (what == 0) {
            return t + d < u - e ? 1 : u + e < t - d ? 2 : 0;
        }
        int pairs = 0;
        for (int one = t - d; one <= t + d; one++) {
            for (int other = u - e; other <= u + e; other++) {
                int first = one < other ? 1 : other < one ? 2 : 3;
                if (first == what) {
                    pairs++;
                }
            }
        }
        return pairs;
    }

    public int show(int test, int stuff, int v) {
        if (!isTest(test) || !within(stuff, 0, Stuffs.STUFFS - 1) || !isShown(v)) {
            return BAD;
        }
        return stuffs.setShown(test, stuff, v);
    }

    public int cost(int test, int v) {
        if (!isTest(test) || !within(v, 1, 99)) {
            return BAD;
        }
        int was = stuffs.costs[test];
        stuffs.costs[test] = v;
        return was;
    }

    public int parting(int set, int what) {
        if (!isSet(set) || !within(what, 0, 1)) {
            return BAD;
        }
        stuffs.solve(set);
        if (stuffs.least[set] == Stuffs.NEVER) {
            return NONE;
        }
        return what == 0 ? stuffs.least[set] : stuffs.firstTest(set);
    }

    public int shown(int set, int test, int v) {
        if (!isSet(set) || !isTest(test) || !isShown(v)) {
            return BAD;
        }
        return stuffs.part(set, test, v);
    }

    public int keep() {
        if (shore.kept >= MOST_KEPT) {
            return FULL;
        }
        return shore.addKept();
    }

    public int back() {
        if (shore.kept < 1) {
            return NO;
        }
        return shore.goBack();
    }

    public int count(int what) {
        switch (what) {
            case 0:
                return beach.cells;
            case 1:
                return beach.kinds;
            case 2:
                return beach.losses;
            case 3:
                return shore.finds;
            case 4:
                return shore.reports;
            case 5:
                return shore.numbers;
            case 6:
                return laidLaw.rules;
            case 7:
                return scroll.length;
            case 8:
                return shore.kept;
            default:
                return BAD;
        }
    }

    private static boolean within(int v, int least, int most) {
        return v >= least && v <= most;
    }

    private static boolean isHour(int hour) {
        return within(hour, 0, LAST_HOUR);
    }

    private static boolean isEyes(int eyes) {
        return within(eyes, 0, BEST_EYES);
    }

    private static boolean isTest(int test) {
        return within(test, 0, Stuffs.TESTS - 1);
    }

    private static boolean isShown(int v) {
        return within(v, 0, Stuffs.SHOWN - 1);
    }

    private static boolean isSet(int set) {
        return within(set, 1, Stuffs.SETS - 1);
    }

    private boolean isCell(int cell) {
        return within(cell, 0, beach.cells - 1);
    }

    private boolean isKind(int kind) {
        return within(kind, 0, beach.kinds - 1);
    }

    private boolean isLoss(int loss) {
        return within(loss, 0, beach.losses - 1);
    }

    /** THE TEXT and the place where it is being read. */
    private static final class Scroll {
        final byte[] bytes = new byte[MOST_BYTES];
        int length = 0;
        int place = 0;
        int value = 0;

        void append(int n, long v) {
            for (int i = n - 1; i >= 0 && length < MOST_BYTES; i--) {
                bytes[length] = (byte) (v >>> (8 * i));
                length++;
            }
        }

        boolean hasMore() {
            return place < length;
        }

        /** The byte at the place, or -1 behind the end. */
        int peek() {
            return place < length && place < MOST_BYTES ? bytes[place] & 255 : -1;
        }

        /** The byte at the place, or -1 behind the end; the place goes on. */
        int takeByte() {
            int sign = peek();
            place++;
            return sign;
        }

        /** Steps over the sign if it is the next one. */
        boolean take(int sign) {
            if (peek() != sign) {
                return false;
            }
            place++;
            return true;
        }

        /** Reads a number of one to three figures into value, perhaps with - ahead if it may be below 0. */
        boolean takeNumber(boolean maySink) {
            boolean below = maySink && take('-');
            int figures = 0;
            value = 0;
            for (int sign = peek(); figures < 3 && within(sign, '0', '9'); sign = peek()) {
                value = 10 * value + sign - '0';
                place++;
                figures++;
            }
            if (figures == 0 || below && value == 0) {
                return false;
            }
            value = below ? -value : value;
            return true;
        }
    }

    /** What a TEXT without FAULT tells of tides, winds, KINDS and LOSSES. */
    private static final class Beach {
        static final int MOST_TIDES = 12;
        static final int MOST_WINDS = 12;

        final int[] told = new int[5];
        int cells = 8;
        final Weather weather = new Weather();
        int kinds = 0;
        final int[] kindLow = new int[MOST_KINDS];
        final int[] kindHigh = new int[MOST_KINDS];
        final int[] kindEyes = new int[MOST_KINDS];
        final int[] kindWorth = new int[MOST_KINDS];
        int losses = 0;
        final int[] lossKind = new int[MOST_LOSSES];
        final int[] lossX = new int[MOST_LOSSES];
        final int[] lossY = new int[MOST_LOSSES];
        final int[] lossFirst = new int[MOST_LOSSES];
        final int[] lossLast = new int[MOST_LOSSES];

        int worldsOf(int loss) {
            int kind = lossKind[loss];
            return (kindHigh[kind] - kindLow[kind] + 1) * (lossLast[loss] - lossFirst[loss] + 1);
        }

        /** Becomes what the TEXT tells, up to its FAULT: the FAULT, or NONE. */
        int readFrom(Scroll scroll) {
            cells = 8;
            weather.clear();
            kinds = 0;
            losses = 0;
            scroll.place = 0;
            for (int items = 0; items < MOST_BYTES && scroll.hasMore(); items++) {
                int start = scroll.place;
                if (!readItem(scroll)) {
                    return start;
                }
            }
            return NONE;
        }

        private boolean readItem(Scroll scroll) {
            switch (scroll.takeByte()) {
                case 'n':
                    return readNumbers(scroll, 1) && addCells();
                case 't':
                    return readNumbers(scroll, 2) && addTide();
                case 'w':
                    return readNumbers(scroll, 3) && addWind();
                case 'k':
                    return readNumbers(scroll, 4) && addKind();
                case 'l':
                    return readNumbers(scroll, 5) && addLoss();
                default:
                    return false;
            }
        }

        private boolean readNumbers(Scroll scroll, int wanted) {
            for (int i = 0; i < wanted && i < told.length; i++) {
                if (!scroll.takeNumber(true)) {
                    return false;
                }
                told[i] = scroll.value;
                if (!scroll.take(i == wanted - 1 ? ';' : ',')) {
                    return false;
                }
            }
            return true;
        }

        private boolean addCells() {
            if (!within(told[0], 1, MOST_CELLS)) {
                return false;
            }
            cells = told[0];
            return true;
        }

        private boolean addTide() {
            if (weather.tides >= MOST_TIDES || !within(told[0], -9, 9) || !within(told[1], -9, 9)) {
                return false;
            }
            weather.addTide(told[0], told[1]);
            return true;
        }

        private boolean addWind() {
            if (weather.windsTold >= MOST_WINDS || !isHour(told[0])
                    || !within(told[1], -99, 99) || !within(told[2], -99, 99)) {
                return false;
            }
            weather.addWind(told[0], told[1], told[2]);
            return true;
        }

        private boolean addKind() {
            if (kinds >= MOST_KINDS || !within(told[0], 0, FULL_SHARE) || !within(told[1], told[0], FULL_SHARE)
                    || !isEyes(told[2]) || !within(told[3], 0, 999)) {
                return false;
            }
            kindLow[kinds] = told[0];
            kindHigh[kinds] = told[1];
            kindEyes[kinds] = told[2];
            kindWorth[kinds] = told[3];
            kinds++;
            return true;
        }

        private boolean addLoss() {
            if (losses >= MOST_LOSSES || !within(told[0], 0, kinds - 1)
                    || !within(told[1], 0, CELL_WIDTH * MOST_CELLS - 1) || !within(told[2], 1, FARTHEST_OFF)
                    || !isHour(told[3]) || !isHour(told[4]) || !within(told[4], told[3], told[3] + 9)) {
                return false;
            }
            lossKind[losses] = told[0];
            lossX[losses] = told[1];
            lossY[losses] = told[2];
            lossFirst[losses] = told[3];
            lossLast[losses] = told[4];
            losses++;
            return true;
        }
    }

    /** The TIDE in its round, and the WINDS by HOUR, each HOUR once. */
    private static final class Weather {
        int tides = 0;
        final int[] tideX = new int[Beach.MOST_TIDES];
        final int[] tideY = new int[Beach.MOST_TIDES];
        int windsTold = 0;
        int winds = 0;
        final int[] windHour = new int[Beach.MOST_WINDS];
        final int[] windX = new int[Beach.MOST_WINDS];
        final int[] windY = new int[Beach.MOST_WINDS];

        void clear() {
            tides = 0;
            windsTold = 0;
            winds = 0;
        }

        void addTide(int x, int y) {
            tideX[tides] = x;
            tideY[tides] = y;
            tides++;
        }

        /** Sorted, so that a drift takes the WINDS one behind the other; the last of one HOUR stands. */
        void addWind(int hour, int x, int y) {
            windsTold++;
            int row = 0;
            while (row < winds && windHour[row] < hour) {
                row++;
            }
            if (row >= winds || windHour[row] != hour) {
                makeRoom(row);
            }
            windHour[row] = hour;
            windX[row] = x;
            windY[row] = y;
        }

        private void makeRoom(int row) {
            for (int i = winds; i > row; i--) {
                windHour[i] = windHour[i - 1];
                windX[i] = windX[i - 1];
                windY[i] = windY[i - 1];
            }
            winds++;
        }
    }

    /** Where and when things come ashore: the last one let go, and all WORLDS of the LOSSES asked for. */
    private static final class Landings {
        static final int GONE = -1;
        static final int MOST_WORLDS = 110;

        int cell = GONE;
        int hour = GONE;
        final boolean[] known = new boolean[MOST_LOSSES];
        final int[][] cells = new int[MOST_LOSSES][MOST_WORLDS];
        final int[][] hours = new int[MOST_LOSSES][MOST_WORLDS];

        /** Another BEACH: no LOSS is known any more. */
        void forget() {
            for (int loss = 0; loss < MOST_LOSSES; loss++) {
                known[loss] = false;
            }
        }

        /** One DRIFT: leaves where and when it came ashore, or GONE in both. */
        void release(Beach beach, int fromX, int fromY, int start, int share) {
            Weather weather = beach.weather;
            int x = fromX;
            int y = fromY;
            int windX = 0;
            int windY = 0;
            int wind = 0;
            int lastX = CELL_WIDTH * beach.cells - 1;
            cell = GONE;
            hour = GONE;
            for (int now = start; now < LAST_HOUR; now++) {
                for (; wind < weather.winds && weather.windHour[wind] <= now; wind++) {
                    windX = share * weather.windX[wind] / 10;
                    windY = share * weather.windY[wind] / 10;
                }
                if (weather.tides > 0) {
                    int tide = now % weather.tides;
                    x += weather.tideX[tide];
                    y += weather.tideY[tide];
                }
                x += windX;
                y += windY;
                if (x < 0 || x > lastX || y > FARTHEST_OFF) {
                    return;
                }
                if (y <= 0) {
                    cell = x / CELL_WIDTH;
                    hour = now + 1;
                    return;
                }
            }
        }

        /** All WORLDS of a LOSS are drifted once, when they are first asked for: most are never asked. */
        void settle(Beach beach, int loss) {
            if (known[loss]) {
                return;
            }
            int kind = beach.lossKind[loss];
            int world = 0;
            for (int share = beach.kindLow[kind]; share <= beach.kindHigh[kind]; share++) {
                for (int start = beach.lossFirst[loss]; start <= beach.lossLast[loss]; start++) {
                    if (world < MOST_WORLDS) {
                        release(beach, beach.lossX[loss], beach.lossY[loss], start, share);
                        cells[loss][world] = cell;
                        hours[loss][world] = hour;
                        world++;
                    }
                }
            }
            known[loss] = true;
        }

        /** How many of the first WORLDS of a settled LOSS are ashore in a CELL (or GONE) from one HOUR to another. */
        int howMany(int loss, int worlds, int where, int from, int to) {
            int many = 0;
            for (int world = 0; world < worlds && world < MOST_WORLDS; world++) {
                if (cells[loss][world] == where && within(hours[loss][world], from, to)) {
                    many++;
                }
            }
            return many;
        }
    }

    /** What was found, reported and numbered, and what of that is KEPT. */
    private static final class Shore {
        int finds = 0;
        final int[] findKind = new int[MOST_FINDS];
        final int[] findCell = new int[MOST_FINDS];
        final int[] findHour = new int[MOST_FINDS];
        int reports = 0;
        final int[] reportCell = new int[MOST_REPORTS];
        final int[] reportHour = new int[MOST_REPORTS];
        final int[] reportEyes = new int[MOST_REPORTS];
        final int[] reportKind = new int[MOST_REPORTS];
        final boolean[] reportSaw = new boolean[MOST_REPORTS];
        int numbers = 0;
        final int[] numberFound = new int[MOST_NUMBERS];
        // all rows only grow at their ends, and shrink only to what was KEPT last: how long they were is enough
        int kept = 0;
        final int[] keptFinds = new int[MOST_KEPT];
        final int[] keptReports = new int[MOST_KEPT];
        final int[] keptNumbers = new int[MOST_KEPT];

        void clear() {
            finds = 0;
            reports = 0;
            numbers = 0;
            kept = 0;
        }

        int addKept() {
            keptFinds[kept] = finds;
            keptReports[kept] = reports;
            keptNumbers[kept] = numbers;
            kept++;
            return kept;
        }

        int goBack() {
            kept--;
            finds = keptFinds[kept];
            reports = keptReports[kept];
            numbers = keptNumbers[kept];
            return kept;
        }

        int addFind(int kind, int cell, int hour) {
            findKind[finds] = kind;
            findCell[finds] = cell;
            findHour[finds] = hour;
            finds++;
            return finds;
        }

        int addReport(int cell, int hour, int eyes, int kind, boolean saw) {
            reportCell[reports] = cell;
            reportHour[reports] = hour;
            reportEyes[reports] = eyes;
            reportKind[reports] = kind;
            reportSaw[reports] = saw;
            reports++;
            return reports;
        }

        boolean sawBy(int kind, int cell, int hour) {
            for (int i = 0; i < reports; i++) {
                if (reportSaw[i] && reportKind[i] == kind && reportCell[i] == cell && reportHour[i] <= hour) {
                    return true;
                }
            }
            return false;
        }

        boolean sawNoneFrom(int kind, int cell, int hour, int eyesNeeded) {
            for (int i = 0; i < reports; i++) {
                if (!reportSaw[i] && reportKind[i] == kind && reportCell[i] == cell
                        && reportHour[i] >= hour && reportEyes[i] >= eyesNeeded) {
                    return true;
                }
            }
            return false;
        }

        boolean hasNumber(int v) {
            for (int i = 0; i < numbers; i++) {
                if (numberFound[i] == v) {
                    return true;
                }
            }
            return false;
        }

        int addNumber(int v) {
            numberFound[numbers] = v;
            numbers++;
            return numbers;
        }

        int greatestNumber() {
            int greatest = 0;
            for (int i = 0; i < numbers; i++) {
                greatest = Math.max(greatest, numberFound[i]);
            }
            return greatest;
        }
    }

    /** PARTED: the first way to give each FIND a LOSS of its own. */
    private static final class Matching {
        static final int ALL_SETS = 1 << MOST_LOSSES;

        final int[] choices = new int[MOST_LOSSES];
        // whether the FINDS behind those that took a set of LOSSES (as many as it has) can have one each, too
        final boolean[] canGoOn = new boolean[ALL_SETS];

        /** Sets are gone through from the greatest, as each asks for sets with one LOSS more. */
        boolean solve(int finds) {
            for (int taken = ALL_SETS - 1; taken >= 0; taken--) {
                int find = Integer.bitCount(taken);
                canGoOn[taken] = find == finds || find < finds && lowestFor(find, taken) >= 0;
            }
            return canGoOn[0];
        }

        /** The lowest LOSS that a FIND can take when a set is taken, or NONE. */
        private int lowestFor(int find, int taken) {
            int free = choices[find] & ~taken;
            for (int loss = 0; loss < MOST_LOSSES; loss++) {
                if ((free >> loss & 1) == 1 && canGoOn[taken | 1 << loss]) {
                    return loss;
                }
            }
            return NONE;
        }

        /** The LOSS of a FIND in the way that solve has found. */
        int choiceOf(int find) {
            int taken = 0;
            int loss = NONE;
            for (int i = 0; i <= find; i++) {
                loss = lowestFor(i, taken);
                if (loss < 0) {
                    return NONE;
                }
                taken |= 1 << loss;
            }
            return loss;
        }
    }

    /** What REPORTS leave of the WORLDS, and what that lets one hope for. */
    private static final class Outlook {
        static final int NEVER = -1;

        // the latest HOUR at which good EYES saw none of a KIND in a CELL: what came by then is gainsaid
        final int[][] clearUntil = new int[MOST_KINDS][MOST_CELLS];
        final int[] remaining = new int[MOST_LOSSES];
        final int[][] lying = new int[MOST_LOSSES][MOST_CELLS];
        final long[] stretch = new long[MOST_CELLS];
        // the greatest sum of HOPES of some walks in the CELLS from one on, NEVER if they have no room; of none it stays 0
        final long[][] joined = new long[MOST_WALKS + 1][MOST_CELLS + 1];

        void readReports(Beach beach, Shore shore) {
            for (int kind = 0; kind < MOST_KINDS; kind++) {
                Arrays.fill(clearUntil[kind], NEVER);
            }
            for (int i = 0; i < shore.reports; i++) {
                int kind = shore.reportKind[i];
                int cell = shore.reportCell[i];
                if (!shore.reportSaw[i] && shore.reportEyes[i] >= beach.kindEyes[kind]) {
                    clearUntil[kind][cell] = Math.max(clearUntil[kind][cell], shore.reportHour[i]);
                }
            }
        }

        /** Counts the WORLDS of a settled LOSS that are LEFT, and where these lie by an HOUR. */
        void weigh(Beach beach, Landings landings, int loss, int hour) {
            int[] clear = clearUntil[beach.lossKind[loss]];
            int worlds = beach.worldsOf(loss);
            Arrays.fill(lying[loss], 0);
            remaining[loss] = 0;
            for (int world = 0; world < worlds && world < Landings.MOST_WORLDS; world++) {
                int cell = landings.cells[loss][world];
                int came = landings.hours[loss][world];
                if (cell == Landings.GONE) {
                    remaining[loss]++;
                } else if (came > clear[cell]) {
                    remaining[loss]++;
                    if (came <= hour) {
                        lying[loss][cell]++;
                    }
                }
            }
        }

        /** HOPE of CELLS a to b, when all LOSSES are weighed. */
        long sumOver(Beach beach, int a, int b, int eyes) {
            long sum = 0;
            for (int loss = 0; loss < beach.losses; loss++) {
                int kind = beach.lossKind[loss];
                if (beach.kindEyes[kind] <= eyes && remaining[loss] > 0) {
                    long many = 0;
                    for (int cell = a; cell <= b && cell < MOST_CELLS; cell++) {
                        many += lying[loss][cell];
                    }
                    sum += beach.kindWorth[kind] * many * 1000000L / remaining[loss];
                }
            }
            return sum;
        }

        /** HOPE of each stretch of n CELLS, by the CELL it begins in. */
        void weighStretches(Beach beach, int n, int eyes) {
            for (int begin = 0; begin + n <= beach.cells; begin++) {
                stretch[begin] = sumOver(beach, begin, begin + n - 1, eyes);
            }
        }

        int bestStretch(int lastBegin) {
            int best = 0;
            for (int begin = 1; begin <= lastBegin && begin < MOST_CELLS; begin++) {
                if (stretch[begin] > stretch[best]) {
                    best = begin;
                }
            }
            return best;
        }

        /** The greatest sums for up to m walks of n CELLS, from the last CELL to the first. */
        void joinStretches(int cells, int n, int m) {
            for (int walks = 1; walks <= m && walks <= MOST_WALKS; walks++) {
                Arrays.fill(joined[walks], NEVER);
                for (int begin = cells - n; begin >= 0; begin--) {
                    joined[walks][begin] = Math.max(joined[walks][begin + 1], sumFrom(begin, n, walks));
                }
            }
        }

        /** The greatest sum of walks whose first begins in just this CELL, or NEVER. */
        private long sumFrom(int begin, int n, int walks) {
            long rest = joined[walks - 1][begin + n];
            return rest < 0 ? NEVER : stretch[begin] + rest;
        }

        /** Where the i-th of m joined walks of n CELLS begins, when each begins as low as it can. */
        int beginOf(int cells, int n, int m, int i) {
            int begin = 0;
            for (int walk = 0; walk <= i && walk < m; walk++) {
                int walks = m - walk;
                begin += walk == 0 ? 0 : n;
                if (begin > cells) {
                    return NONE;
                }
                long wanted = joined[walks][begin];
                while (begin + n < cells && sumFrom(begin, n, walks) != wanted) {
                    begin++;
                }
            }
            return begin;
        }
    }

    /** RULES of a LAW, one behind the other. */
    private static final class Law {
        static final int MOST_RULES = 10;
        static final int MOST_CONDITIONS = 3;

        int rules = 0;
        final int[] conditions = new int[MOST_RULES];
        final int[][] subject = new int[MOST_RULES][MOST_CONDITIONS];
        final int[][] relation = new int[MOST_RULES][MOST_CONDITIONS];
        final int[][] bound = new int[MOST_RULES][MOST_CONDITIONS];
        final int[] owner = new int[MOST_RULES];
        final int[] days = new int[MOST_RULES];
        final int[] hundredths = new int[MOST_RULES];

        /** Becomes what the TEXT tells, up to its FAULT: the FAULT, or NONE. */
        int readFrom(Scroll scroll) {
            rules = 0;
            scroll.place = 0;
            for (int items = 0; items < MOST_BYTES && scroll.hasMore(); items++) {
                int start = scroll.place;
                if (rules >= MOST_RULES || !readConditions(scroll) || !readOutcome(scroll)) {
                    return start;
                }
                rules++;
            }
            return NONE;
        }

        /** Reads the CONDITIONS of the next RULE and the : behind them. */
        private boolean readConditions(Scroll scroll) {
            conditions[rules] = 0;
            if (scroll.take(':')) {
                return true;
            }
            for (int i = 0; i < MOST_CONDITIONS; i++) {
                if (!readCondition(scroll, i)) {
                    return false;
                }
                conditions[rules] = i + 1;
                if (scroll.take(':')) {
                    return true;
                }
                if (!scroll.take('&')) {
                    return false;
                }
            }
            return false;
        }

        private boolean readCondition(Scroll scroll, int i) {
            int about = scroll.takeByte();
            int sign = scroll.takeByte();
            boolean isSubject = about == 'w' || about == 'k' || about == 'c' || about == 'h';
            if (!isSubject || sign != '<' && sign != '>' || !scroll.takeNumber(false)) {
                return false;
            }
            subject[rules][i] = about;
            relation[rules][i] = sign;
            bound[rules][i] = scroll.value;
            return true;
        }

        /** Reads whose it is, days and reward of the next RULE. */
        private boolean readOutcome(Scroll scroll) {
            int letter = scroll.takeByte();
            owner[rules] = letter == 'F' ? 1 : letter == 'O' ? 2 : 3;
            if (letter != 'F' && letter != 'O' && letter != 'C' || !scroll.takeNumber(false)) {
                return false;
            }
            days[rules] = scroll.value;
            if (!scroll.take(',') || !scroll.takeNumber(false) || scroll.value > 100) {
                return false;
            }
            hundredths[rules] = scroll.value;
            return scroll.take(';');
        }

        int firstThatHolds(int worth, int kind, int cell, int hour) {
            for (int rule = 0; rule < rules; rule++) {
                boolean holds = true;
                for (int i = 0; i < conditions[rule]; i++) {
                    int value = valueOf(subject[rule][i], worth, kind, cell, hour);
                    int limit = bound[rule][i];
                    holds = holds && (relation[rule][i] == '<' ? value < limit : value > limit);
                }
                if (holds) {
                    return rule;
                }
            }
            return NONE;
        }

        private static int valueOf(int about, int worth, int kind, int cell, int hour) {
            switch (about) {
                case 'w':
                    return worth;
                case 'k':
                    return kind;
                case 'c':
                    return cell;
                default:
                    return hour;
            }
        }
    }

    /** What TESTS show of STUFFS, what they cost, and what parting a set of STUFFS costs at worst. */
    private static final class Stuffs {
        static final int STUFFS = 8;
        static final int TESTS = 6;
        static final int SHOWN = 4;
        static final int SETS = 1 << STUFFS;
        // far above what any way can cost
        static final int NEVER = 1000000;

        final int[][] shows = new int[TESTS][STUFFS];
        // STUFFS, as bits, of which a TEST shows a value
        final int[][] alike = new int[TESTS][SHOWN];
        final int[] costs = new int[TESTS];
        final int[] least = new int[SETS];

        Stuffs() {
            for (int test = 0; test < TESTS; test++) {
                alike[test][0] = SETS - 1;
                costs[test] = 1;
            }
        }

        int setShown(int test, int stuff, int v) {
            int was = shows[test][stuff];
            alike[test][was] &= ~(1 << stuff);
            alike[test][v] |= 1 << stuff;
            shows[test][stuff] = v;
            return was;
        }

        int part(int set, int test, int v) {
            return set & alike[test][v];
        }

        /** The least cost of each set within a set; a part of a set is a lesser number, so it is known by then. */
        void solve(int set) {
            for (int some = 1; some <= set && some < SETS; some++) {
                if ((some & ~set) == 0) {
                    least[some] = Integer.bitCount(some) == 1 ? 0 : leastCost(some);
                }
            }
        }

        private int leastCost(int set) {
            int best = NEVER;
            for (int test = 0; test < TESTS; test++) {
                best = Math.min(best, costThrough(set, test));
            }
            return best;
        }

        /** The cost at worst when a TEST comes first; NEVER, if it parts nothing or leaves what can't be parted. */
        private int costThrough(int set, int test) {
            int worst = 0;
            for (int v = 0; v < SHOWN; v++) {
                int some = part(set, test, v);
                if (some == set) {
                    return NEVER;
                }
                if (some != 0) {
                    worst = Math.max(worst, least[some]);
                }
            }
            return worst == NEVER ? NEVER : worst + costs[test];
        }

        /** The lowest TEST by which a solved set is parted at least cost; NONE for one STUFF alone. */
        int firstTest(int set) {
            for (int test = 0; test < TESTS; test++) {
                if (costThrough(set, test) == least[set]) {
                    return test;
                }
            }
            return NONE;
        }
    }
}
