import java.util.ArrayList;
import java.util.Arrays;
import java.util.HashMap;
import java.util.List;
import java.util.Map;
import java.util.TreeSet;
import java.util.regex.Matcher;
import java.util.regex.Pattern;

/**
 * The document once more, in the most literal way and with the whole Java library, to hold GaleBeach against:
 * nothing is kept ready, all is counted anew from the TEXT's ITEMS at each call.
 */
final class PlainBeach {
    static final int BAD = -1, NO = -2, FULL = -3, NONE = -4;

    private static final Pattern ITEM = Pattern.compile("([ntwkl])(-?\\d{1,3}(?:,-?\\d{1,3})*);");
    private static final String CONDITION = "[wkch][<>]\\d{1,3}";
    private static final Pattern RULE = Pattern.compile(
            "((?:" + CONDITION + "(?:&" + CONDITION + "){0,2})?):([FOC])(\\d{1,3}),(\\d{1,3});");
    private static final String LETTERS = "ntwkl";
    private static final int[] MOST = {1000, 12, 12, 6, 8};

    record Report(int cell, int hour, int eyes, int kind, boolean saw) { }

    record Landing(int cell, int hour) { }

    private String text = "";
    private Map<Character, List<int[]>> laid = noItems();
    private List<String[]> law = new ArrayList<>();
    private List<int[]> finds = new ArrayList<>();
    private List<Report> reports = new ArrayList<>();
    private List<Integer> numbers = new ArrayList<>();
    private final List<List<List<?>>> kept = new ArrayList<>();
    private final int[][] shows = new int[6][8];
    private final int[] costs = {1, 1, 1, 1, 1, 1};

    private static Map<Character, List<int[]>> noItems() {
        Map<Character, List<int[]>> items = new HashMap<>();
        for (char letter : LETTERS.toCharArray()) {
            items.put(letter, new ArrayList<>());
        }
        return items;
    }

    private static boolean in(int v, int a, int b) {
        return a <= v && v <= b;
    }

    int write(int n, long v) {
        if (!in(n, 1, 8)) {
            return BAD;
        }
        if (text.length() + n > 400) {
            return FULL;
        }
        String more = "";
        for (int i = 0; i < n; i++) {
            more = (char) (v >> 8 * i & 255) + more;
        }
        text += more;
        return text.length();
    }

    int wipe() {
        int was = text.length();
        text = "";
        return was;
    }

    int fault(boolean asLaw) {
        return asLaw ? readLaw(new ArrayList<>()) : readItems(noItems());
    }

    int lay(boolean asLaw) {
        if (asLaw) {
            List<String[]> rules = new ArrayList<>();
            if (readLaw(rules) != NONE) {
                return NO;
            }
            law = rules;
            return law.size();
        }
        Map<Character, List<int[]>> items = noItems();
        if (readItems(items) != NONE) {
            return NO;
        }
        laid = items;
        finds = new ArrayList<>();
        reports = new ArrayList<>();
        numbers = new ArrayList<>();
        kept.clear();
        return cells();
    }

    private int readItems(Map<Character, List<int[]>> items) {
        Matcher matcher = ITEM.matcher(text);
        int at = 0;
        while (at < text.length()) {
            matcher.region(at, text.length());
            if (!matcher.lookingAt()) {
                return at;
            }
            String[] parts = matcher.group(2).split(",");
            int[] n = new int[parts.length];
            for (int i = 0; i < n.length; i++) {
                if (parts[i].matches("-0+")) {
                    return at;
                }
                n[i] = Integer.parseInt(parts[i]);
            }
            char letter = matcher.group(1).charAt(0);
            if (!fits(letter, n, items.get('k').size()) || items.get(letter).size() >= MOST[LETTERS.indexOf(letter)]) {
                return at;
            }
            items.get(letter).add(n);
            at = matcher.end();
        }
        return NONE;
    }

    private static boolean fits(char letter, int[] n, int kinds) {
        if (n.length != LETTERS.indexOf(letter) + 1) {
            return false;
        }
        switch (letter) {
            case 'n':
                return in(n[0], 1, 16);
            case 't':
                return in(n[0], -9, 9) && in(n[1], -9, 9);
            case 'w':
                return n[0] >= 0 && in(n[1], -99, 99) && in(n[2], -99, 99);
            case 'k':
                return in(n[0], 0, 10) && in(n[1], 0, 10) && n[0] <= n[1] && in(n[2], 0, 9) && n[3] >= 0;
            default:
                return in(n[0], 0, kinds - 1) && in(n[1], 0, 159) && in(n[2], 1, 99) && n[3] >= 0
                        && n[4] >= n[3] && n[4] <= n[3] + 9;
        }
    }

    private int readLaw(List<String[]> rules) {
        Matcher matcher = RULE.matcher(text);
        int at = 0;
        while (at < text.length()) {
            matcher.region(at, text.length());
            if (!matcher.lookingAt() || Integer.parseInt(matcher.group(4)) > 100 || rules.size() == 10) {
                return at;
            }
            rules.add(new String[] {matcher.group(1), matcher.group(2), matcher.group(3), matcher.group(4)});
            at = matcher.end();
        }
        return NONE;
    }

    private int cells() {
        List<int[]> told = laid.get('n');
        return told.isEmpty() ? 8 : told.get(told.size() - 1)[0];
    }

    private int[] kind(int k) {
        return laid.get('k').get(k);
    }

    private int[] loss(int l) {
        return laid.get('l').get(l);
    }

    private boolean noKind(int k) {
        return !in(k, 0, laid.get('k').size() - 1);
    }

    private boolean noLoss(int l) {
        return !in(l, 0, laid.get('l').size() - 1);
    }

    private boolean noCell(int c) {
        return !in(c, 0, cells() - 1);
    }

    private static boolean noHour(int h) {
        return !in(h, 0, 999);
    }

    private static boolean noEyes(int e) {
        return !in(e, 0, 9);
    }

    private int[] windAt(int hour) {
        int[] best = {-1, 0, 0};
        for (int[] w : laid.get('w')) {
            if (w[0] <= hour && w[0] >= best[0]) {
                best = w;
            }
        }
        return best;
    }

    private Landing land(int x, int y, int h, int s) {
        List<int[]> tides = laid.get('t');
        for (int hour = h; hour + 1 <= 999; hour++) {
            int[] tide = tides.isEmpty() ? new int[2] : tides.get(hour % tides.size());
            int[] wind = windAt(hour);
            x += tide[0] + s * wind[1] / 10;
            y += tide[1] + s * wind[2] / 10;
            if (x < 0 || x >= 10 * cells() || y > 99) {
                return null;
            }
            if (y <= 0) {
                return new Landing(x / 10, hour + 1);
            }
        }
        return null;
    }

    int drift(int x, int y, int h, int s, int what) {
        if (!in(x, 0, 10 * cells() - 1) || !in(y, 1, 99) || noHour(h) || !in(s, 0, 10) || !in(what, 0, 1)) {
            return BAD;
        }
        Landing landing = land(x, y, h, s);
        return landing == null ? NONE : what == 0 ? landing.cell : landing.hour;
    }

    private List<Landing> worldsOf(int l) {
        List<Landing> all = new ArrayList<>();
        for (int hour = loss(l)[3]; hour <= loss(l)[4]; hour++) {
            for (int share = kind(loss(l)[0])[0]; share <= kind(loss(l)[0])[1]; share++) {
                all.add(land(loss(l)[1], loss(l)[2], hour, share));
            }
        }
        return all;
    }

    int worlds(int l, int what) {
        if (noLoss(l) || !in(what, 0, 2)) {
            return BAD;
        }
        List<Landing> all = worldsOf(l);
        int gone = (int) all.stream().filter(w -> w == null).count();
        return what == 0 ? all.size() : what == 1 ? all.size() - gone : gone;
    }

    int ashore(int l, int cell, int a, int b) {
        if (noLoss(l) || noCell(cell) || noHour(a) || noHour(b) || b < a) {
            return BAD;
        }
        return (int) worldsOf(l).stream().filter(w -> w != null && w.cell == cell && in(w.hour, a, b)).count();
    }

    int find(int k, int cell, int hour) {
        if (noKind(k) || noCell(cell) || noHour(hour)) {
            return BAD;
        }
        if (finds.size() == 12) {
            return FULL;
        }
        finds.add(new int[] {k, cell, hour});
        return finds.size();
    }

    int from(int f) {
        if (!in(f, 0, finds.size() - 1)) {
            return BAD;
        }
        int[] find = finds.get(f);
        int bits = 0;
        for (int l = 0; l < laid.get('l').size(); l++) {
            if (loss(l)[0] == find[0] && worldsOf(l).stream().anyMatch(w -> w != null && w.cell == find[1] && w.hour <= find[2])) {
                bits += 1 << l;
            }
        }
        return bits;
    }

    int parted(int f) {
        if (!in(f, -1, finds.size() - 1)) {
            return BAD;
        }
        int[] bits = new int[finds.size()];
        for (int i = 0; i < bits.length; i++) {
            bits[i] = from(i);
        }
        List<Integer> way = way(bits, new ArrayList<>());
        return way == null ? NONE : f == -1 ? 1 : way.get(f);
    }

    private static List<Integer> way(int[] bits, List<Integer> begun) {
        if (begun.size() == bits.length) {
            return begun;
        }
        for (int l = 0; l < 8; l++) {
            if ((bits[begun.size()] & 1 << l) != 0 && !begun.contains(l)) {
                List<Integer> more = new ArrayList<>(begun);
                more.add(l);
                List<Integer> whole = way(bits, more);
                if (whole != null) {
                    return whole;
                }
            }
        }
        return null;
    }

    int report(int cell, int hour, int eyes, int k, boolean saw) {
        if (noCell(cell) || noHour(hour) || noEyes(eyes) || noKind(k)) {
            return BAD;
        }
        if (reports.size() == 24) {
            return FULL;
        }
        reports.add(new Report(cell, hour, eyes, k, saw));
        return reports.size();
    }

    int there(int k, int cell, int hour) {
        if (noKind(k) || noCell(cell) || noHour(hour)) {
            return BAD;
        }
        boolean not = false;
        for (Report r : reports) {
            if (r.kind == k && r.cell == cell) {
                if (r.saw && r.hour <= hour) {
                    return 1;
                }
                not |= !r.saw && r.hour >= hour && r.eyes >= kind(k)[2];
            }
        }
        return not ? 2 : 0;
    }

    int missed(int what) {
        if (!in(what, 0, 1)) {
            return BAD;
        }
        int bits = 0;
        for (int i = 0; i < reports.size(); i++) {
            Report r = reports.get(i);
            boolean good = r.eyes >= kind(r.kind)[2];
            if (!r.saw && there(r.kind, r.cell, r.hour) == 1 && (what == 0 ? !good : good)) {
                bits += 1 << i;
            }
        }
        return bits;
    }

    private List<Landing> leftOf(int l) {
        List<Landing> all = new ArrayList<>();
        for (Landing w : worldsOf(l)) {
            boolean gainsaid = false;
            for (Report r : reports) {
                gainsaid |= w != null && w.cell == r.cell && w.hour <= r.hour && !r.saw
                        && r.kind == loss(l)[0] && r.eyes >= kind(r.kind)[2];
            }
            if (!gainsaid) {
                all.add(w);
            }
        }
        return all;
    }

    int left(int l) {
        return noLoss(l) ? BAD : leftOf(l).size();
    }

    long hope(int a, int b, int hour, int eyes) {
        if (noCell(a) || noCell(b) || a > b || noHour(hour) || noEyes(eyes)) {
            return BAD;
        }
        long sum = 0;
        for (int l = 0; l < laid.get('l').size(); l++) {
            List<Landing> left = leftOf(l);
            int[] kind = kind(loss(l)[0]);
            if (kind[2] <= eyes && !left.isEmpty()) {
                long many = left.stream().filter(w -> w != null && in(w.cell, a, b) && w.hour <= hour).count();
                sum += kind[3] * many * 1000000L / left.size();
            }
        }
        return sum;
    }

    private long[] stretches(int n, int hour, int eyes) {
        long[] all = new long[cells() - n + 1];
        for (int a = 0; a < all.length; a++) {
            all[a] = hope(a, a + n - 1, hour, eyes);
        }
        return all;
    }

    long walk(int n, int hour, int eyes, int what) {
        if (!in(n, 1, cells()) || noHour(hour) || noEyes(eyes) || !in(what, 0, 1)) {
            return BAD;
        }
        long[] all = stretches(n, hour, eyes);
        long best = Arrays.stream(all).max().getAsLong();
        int a = 0;
        while (all[a] != best) {
            a++;
        }
        return what == 0 ? a : best;
    }

    long walks(int n, int m, int hour, int eyes, int i) {
        if (!in(n, 1, cells()) || !in(m, 1, 3) || noHour(hour) || noEyes(eyes) || i < -1) {
            return BAD;
        }
        long[] all = stretches(n, hour, eyes);
        long best = -1;
        int[] begins = null;
        // in the order of the begins, so that the first of the greatest is the lowest
        for (int[] some : allBegins(all.length, n, m)) {
            long sum = Arrays.stream(some).mapToLong(a -> all[a]).sum();
            if (sum > best) {
                best = sum;
                begins = some;
            }
        }
        return begins == null || i >= m ? NONE : i == -1 ? best : begins[i];
    }

    private static List<int[]> allBegins(int stretches, int n, int m) {
        List<int[]> all = new ArrayList<>();
        for (int a = 0; a < stretches; a++) {
            for (int b = m < 2 ? stretches : a + n; m < 2 ? b == stretches : b < stretches; b++) {
                for (int c = m < 3 ? stretches : b + n; m < 3 ? c == stretches : c < stretches; c++) {
                    all.add(Arrays.copyOf(new int[] {a, b, c}, m));
                }
            }
        }
        return all;
    }

    int number(int v) {
        if (!in(v, 1, 9999)) {
            return BAD;
        }
        if (numbers.contains(v)) {
            return NO;
        }
        if (numbers.size() == 20) {
            return FULL;
        }
        numbers.add(v);
        return numbers.size();
    }

    int fell(int what) {
        if (!in(what, 0, 2)) {
            return BAD;
        }
        if (numbers.isEmpty()) {
            return NO;
        }
        int k = numbers.size();
        int m = new TreeSet<>(numbers).last();
        java.math.BigInteger above = java.math.BigInteger.valueOf((long) m * k + m - k);
        int common = above.gcd(java.math.BigInteger.valueOf(k)).intValue();
        return what == 0 ? m : what == 1 ? above.intValue() / common : k / common;
    }

    int most(int a, int b) {
        if (!in(a, 1, 1000) || !in(b, 1, 1000) || a > b) {
            return BAD;
        }
        if (numbers.isEmpty()) {
            return NO;
        }
        int m = new TreeSet<>(numbers).last();
        int all = 99999;
        while (odds(m, all) < 1000000000L * a / b) {
            all--;
        }
        return all;
    }

    private long odds(int m, int all) {
        long odds = 1000000000;
        for (int i = 0; i < numbers.size(); i++) {
            odds = odds * (m - i) / (all - i);
        }
        return odds;
    }

    int glass(int z, int r, int years) {
        if (!in(z, 1, 999) || !in(r, 0, 99) || !in(years, 0, 99)) {
            return BAD;
        }
        return years == 0 ? z : wear(glass(z, r, years - 1), r);
    }

    private static int wear(int z, int r) {
        int less = z * r / 100 + 1;
        return less > z ? 0 : z - less;
    }

    int life(int z, int r) {
        if (!in(z, 1, 999) || !in(r, 0, 99)) {
            return BAD;
        }
        int years = 0;
        while (z > 0) {
            z = wear(z, r);
            years++;
        }
        return years;
    }

    int whose(int k, int cell, int hour, int what) {
        if (noKind(k) || noCell(cell) || noHour(hour) || !in(what, 0, 2)) {
            return BAD;
        }
        int worth = kind(k)[3];
        for (String[] rule : law) {
            boolean holds = true;
            for (String condition : rule[0].isEmpty() ? new String[0] : rule[0].split("&")) {
                int value = new int[] {worth, k, cell, hour}["wkch".indexOf(condition.charAt(0))];
                int bound = Integer.parseInt(condition.substring(2));
                holds &= condition.charAt(1) == '<' ? value < bound : value > bound;
            }
            if (holds) {
                return what == 0 ? "FOC".indexOf(rule[1]) + 1 : what == 1 ? Integer.parseInt(rule[2])
                        : worth * Integer.parseInt(rule[3]) / 100;
            }
        }
        return what == 0 ? 1 : 0;
    }

    int two(int t, int d, int u, int e, int what) {
        if (noHour(t) || !in(d, 0, 9) || noHour(u) || !in(e, 0, 9) || !in(what, 0, 3)) {
            return BAD;
        }
        int[] pairs = new int[4];
        for (int i = -d; i <= d; i++) {
            for (int j = -e; j <= e; j++) {
                pairs[t + i < u + j ? 1 : t + i > u + j ? 2 : 3]++;
            }
        }
        int all = (2 * d + 1) * (2 * e + 1);
        return what > 0 ? pairs[what] : pairs[1] == all ? 1 : pairs[2] == all ? 2 : 0;
    }

    int show(int test, int stuff, int v) {
        if (!in(test, 0, 5) || !in(stuff, 0, 7) || !in(v, 0, 3)) {
            return BAD;
        }
        int was = shows[test][stuff];
        shows[test][stuff] = v;
        return was;
    }

    int cost(int test, int v) {
        if (!in(test, 0, 5) || !in(v, 1, 99)) {
            return BAD;
        }
        int was = costs[test];
        costs[test] = v;
        return was;
    }

    int parting(int set, int what) {
        if (!in(set, 1, 255) || !in(what, 0, 1)) {
            return BAD;
        }
        int[] best = bestOf(set, new HashMap<>());
        return best == null ? NONE : best[what];
    }

    /** The least cost and the first TEST of it, or null. */
    private int[] bestOf(int set, Map<Integer, int[]> known) {
        if (Integer.bitCount(set) == 1) {
            return new int[] {0, NONE};
        }
        if (known.containsKey(set)) {
            return known.get(set);
        }
        int[] best = null;
        for (int test = 0; test < 6; test++) {
            int worst = shown(set, test, shows[test][Integer.numberOfTrailingZeros(set)]) == set ? -1 : 0;
            for (int v = 0; v < 4 && worst >= 0; v++) {
                int part = shown(set, test, v);
                int[] of = part == 0 ? new int[2] : bestOf(part, known);
                worst = of == null ? -1 : Math.max(worst, of[0]);
            }
            if (worst >= 0 && (best == null || worst + costs[test] < best[0])) {
                best = new int[] {worst + costs[test], test};
            }
        }
        known.put(set, best);
        return best;
    }

    int shown(int set, int test, int v) {
        if (!in(set, 1, 255) || !in(test, 0, 5) || !in(v, 0, 3)) {
            return BAD;
        }
        int bits = 0;
        for (int stuff = 0; stuff < 8; stuff++) {
            if ((set & 1 << stuff) != 0 && shows[test][stuff] == v) {
                bits += 1 << stuff;
            }
        }
        return bits;
    }

    int keep() {
        if (kept.size() == 2) {
            return FULL;
        }
        kept.add(List.of(new ArrayList<>(finds), new ArrayList<>(reports), new ArrayList<>(numbers)));
        return kept.size();
    }

    @SuppressWarnings("unchecked")
    int back() {
        if (kept.isEmpty()) {
            return NO;
        }
        List<List<?>> last = kept.remove(kept.size() - 1);
        finds = (List<int[]>) last.get(0);
        reports = (List<Report>) last.get(1);
        numbers = (List<Integer>) last.get(2);
        return kept.size();
    }

    int count(int what) {
        if (!in(what, 0, 8)) {
            return BAD;
        }
        return new int[] {cells(), laid.get('k').size(), laid.get('l').size(), finds.size(), reports.size(), numbers.size(),
            law.size(), text.length(), kept.size()}[what];
    }
}
