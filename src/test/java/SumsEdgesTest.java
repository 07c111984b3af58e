/** The edges of numbered things, GLASS, LAW and TWO finders (promises 19 to 25). */
final class SumsEdgesTest {
    private static final int BAD = Checks.BAD, NO = Checks.NO, FULL = Checks.FULL;
    private static final Checks checks = new Checks("SumsEdgesTest");

    public static void main(String[] args) {
        howManyNumbers();
        leastAndGreatestNumbers();
        lowestTerms();
        mostEnds();
        mostAtJustTheOdds();
        mostIsCut();
        glassEnds();
        everyGlass();
        conditionsAtTheirBounds();
        firstThatHolds();
        outcomes();
        touching();
        everyPair();
        checks.end();
    }

    private static void due(String call, long got, long want) {
        checks.due(call, got, want);
    }

    private static Face found(int... numbers) {
        Face x = Face.gale();
        for (int v : numbers) {
            x.call("number", v);
        }
        return x;
    }

    /** k numbers, the greatest of them m: m, and 1, 2, .. */
    private static Face foundUpTo(int k, int m) {
        Face x = found(m);
        for (int v = 1; v < k; v++) {
            x.call("number", v);
        }
        return x;
    }

    /** 20 at most, none twice: of these NO comes first. */
    private static void howManyNumbers() {
        Face x = Face.gale();
        for (int i = 1; i <= 20; i++) {
            due("number", x.call("number", 3 * i), i);
            due("the same again", x.call("number", 3 * i), NO);
            due("the first again", x.call("number", 3), NO);
            due("how many", x.call("count", 5), i);
        }
        due("the twenty-first", x.call("number", 1), FULL);
        due("a greater one", x.call("number", 9999), FULL);
        due("the last again", x.call("number", 60), NO);
        due("bad", x.call("number", 10000), BAD);
        due("the greatest stays", x.call("fell", 0), 60);
        due("twenty stay", x.call("count", 5), 20);
    }

    private static void leastAndGreatestNumbers() {
        for (int v : new int[] {1, 2, 9998, 9999}) {
            Face x = Face.gale();
            due("number " + v, x.call("number", v), 1);
            due("M", x.call("fell", 0), v);
            due("mean above", x.call("fell", 1), 2 * v - 1);
            due("mean below", x.call("fell", 2), 1);
        }
        for (int v : new int[] {0, -1, 10000}) {
            Face x = Face.gale();
            due("number " + v, x.call("number", v), BAD);
            due("none found", x.call("fell", 0), NO);
            due("none found", x.call("most", 1, 1), NO);
        }
        // the greatest, wherever it stands
        due("first", found(9, 2, 3).call("fell", 0), 9);
        due("between", found(2, 9, 3).call("fell", 0), 9);
        due("last", found(2, 3, 9).call("fell", 0), 9);
    }

    /** "M and M by k less 1, in lowest terms", for each k and many M. */
    private static void lowestTerms() {
        for (int k = 1; k <= 20; k++) {
            for (int m : new int[] {k, k + 1, 20, 21, 24, 36, 60, 119, 120, 121, 5040, 9996, 9998, 9999}) {
                if (m < k) {
                    continue;
                }
                Face x = foundUpTo(k, m);
                long above = x.call("fell", 1);
                long below = x.call("fell", 2);
                checks.holds("the mean of " + k + " up to " + m, above * k == below * (m * k + m - k));
                due("lowest terms of " + above + " by " + below, gcd(above, below), 1);
                checks.holds("a divisor of k", below >= 1 && k % below == 0);
                due("M", x.call("fell", 0), m);
            }
        }
    }

    private static long gcd(long a, long b) {
        return b == 0 ? a : gcd(b, a % b);
    }

    /** N from M to 99999; a and b from 1 to 1000, a no more than b. */
    private static void mostEnds() {
        for (int m : new int[] {1, 2, 100, 9999}) {
            for (int b : new int[] {1, 2, 999, 1000}) {
                due("all of the odds", found(m).call("most", b, b), m);
            }
        }
        due("one of 1000", found(1).call("most", 1, 1000), 1000);
        due("99 by 1000", found(99).call("most", 1, 1000), 99000);
        due("up to 99999", found(100).call("most", 1, 1000), 99999);
        due("up to 99999", found(9999).call("most", 1, 1000), 99999);
        due("up to 99999, just", found(9999).call("most", 99, 990), 99990);
        due("up to 99999, just", found(9999).call("most", 99, 991), 99999);
        due("twenty of twenty", foundUpTo(20, 20).call("most", 1000, 1000), 20);
        Face x = found(5);
        long[][] bad = {{0, 1}, {0, 0}, {1, 0}, {1, 1001}, {1000, 1001}, {1001, 1001}, {1001, 1000}, {2, 1}, {1000, 999}, {-1, 1}, {1, -1}};
        for (long[] b : bad) {
            due(Face.described("most", b), x.call("most", b), BAD);
            due("without numbers", Face.gale().call("most", b), BAD);
        }
        due("without numbers", Face.gale().call("most", 1, 1000), NO);
    }

    /** Odds that are just enough are enough; one N more is not. */
    private static void mostAtJustTheOdds() {
        for (int m : new int[] {1, 3, 7, 50, 99}) {
            for (int times = 1; times <= 1000; times *= 10) {
                due(m + " by 1 of " + times, found(m).call("most", 1, times), m * times);
            }
        }
        due("4 of 5", found(8).call("most", 4, 5), 10);
        // 3 of N none above 4: 4 of 10 with N 5; with N 6 it were 1 of 5, but for what is cut
        due("4 of 10", found(1, 2, 4).call("most", 4, 10), 5);
        due("401 of 1000", found(1, 2, 4).call("most", 401, 1000), 4);
        due("1 of 5", found(1, 2, 4).call("most", 1, 5), 5);
        due("199 of 1000", found(1, 2, 4).call("most", 199, 1000), 6);
    }

    /** Each step is cut, and so is what is asked for. */
    private static void mostIsCut() {
        int[][] sets = {{1, 2}, {1, 2, 3}, {2, 3, 5, 7, 11, 13}, {20, 19, 18, 17, 16, 15, 14, 13, 12, 11, 10, 9, 8, 7, 6, 5, 4, 3, 2, 1}};
        for (int[] set : sets) {
            Face x = found(set);
            int m = set.length == 20 ? 20 : set[set.length - 1];
            for (int b = 1; b <= 1000; b += 37) {
                for (int a = 1; a <= b; a += 1 + b / 3) {
                    due("most of " + m + " by " + a + " of " + b, x.call("most", a, b), scanned(m, set.length, a, b));
                }
            }
        }
        // a third, cut, is met by odds that are cut once
        due("a third", found(1).call("most", 1, 3), 3);
        due("two thirds", found(2).call("most", 2, 3), 3);
        due("a third of two", found(1, 2).call("most", 1, 3), 3);
        due("a seventh", found(1).call("most", 1, 7), 7);
    }

    private static int scanned(int m, int k, int a, int b) {
        int best = -1;
        for (int all = m; all <= 99999; all++) {
            long odds = 1000000000L;
            for (int i = 0; i < k; i++) {
                odds = odds * (m - i) / (all - i);
            }
            best = odds >= 1000000000L * a / b ? all : best;
        }
        return best;
    }

    private static void glassEnds() {
        Face x = Face.gale();
        long[][] due = {{1, 0, 0, 1}, {1, 0, 1, 0}, {1, 99, 0, 1}, {1, 99, 1, 0}, {1, 99, 99, 0}, {2, 0, 1, 1}, {2, 0, 2, 0}, {2, 0, 3, 0},
            {2, 49, 1, 1}, {2, 50, 1, 0}, {3, 33, 1, 2}, {3, 34, 1, 1}, {99, 0, 98, 1}, {99, 0, 99, 0}, {100, 0, 99, 1},
            {999, 0, 0, 999}, {999, 0, 1, 998}, {999, 99, 0, 999}, {999, 99, 1, 9}, {999, 99, 2, 0}, {100, 99, 1, 0}, {101, 99, 1, 1}, {200, 99, 1, 1}};
        for (long[] d : due) {
            due("glass " + d[0] + ", " + d[1] + ", " + d[2], x.call("glass", d[0], d[1], d[2]), d[3]);
        }
        long[][] lives = {{1, 0, 1}, {2, 0, 2}, {999, 0, 999}, {998, 0, 998}, {1, 99, 1}, {2, 49, 2}, {2, 50, 1}, {100, 99, 1}, {101, 99, 2}, {999, 99, 2}};
        for (long[] d : lives) {
            due("life " + d[0] + ", " + d[1], x.call("life", d[0], d[1]), d[2]);
        }
    }

    /** Each size with some wear, year by year, never below 0. */
    private static void everyGlass() {
        for (int r : new int[] {0, 1, 2, 33, 50, 98, 99}) {
            for (int z = 1; z <= 999; z += r == 0 ? 111 : 13) {
                Face x = Face.gale();
                int size = z;
                int years = 0;
                while (size > 0) {
                    if (years <= 99) {
                        due("glass " + z + ", " + r + ", " + years, x.call("glass", z, r, years), size);
                    }
                    size = Math.max(0, size - (size * r / 100 + 1));
                    years++;
                }
                due("life " + z + ", " + r, x.call("life", z, r), years);
                for (int late = years; late <= 99 && late < years + 3; late++) {
                    due("nothing is left", x.call("glass", z, r, late), 0);
                }
                due("a hundred years", x.call("glass", z, r, 100), BAD);
            }
        }
    }

    /** < and > just below, at and just above their number, for each of WORTH, KIND, CELL and HOUR. */
    private static void conditionsAtTheirBounds() {
        int[][] values = {{0, 1, 499, 500, 501, 998, 999}, {0, 1, 5}, {0, 1, 14, 15}, {0, 1, 500, 998, 999}};
        for (int about = 0; about < 4; about++) {
            for (int value : values[about]) {
                for (int bound = Math.max(0, value - 1); bound <= Math.min(999, value + 1); bound++) {
                    holds("wkch".charAt(about) + "<" + bound, about, value, value < bound);
                    holds("wkch".charAt(about) + ">" + bound, about, value, value > bound);
                }
            }
        }
    }

    private static void holds(String condition, int about, int value, boolean itDoes) {
        Face x = Face.galeOf("n16;" + ("k0,0,0," + (about == 0 ? value : 7) + ";").repeat(6));
        x.lay(condition + ":C8,100;", 1);
        long[] at = {about == 1 ? value : 2, about == 2 ? value : 3, about == 3 ? value : 4, 0};
        due(condition + " of " + value, x.call("whose", at), itDoes ? 3 : 1);
        at[3] = 1;
        due(condition + " of " + value + ", days", x.call("whose", at), itDoes ? 8 : 0);
        at[3] = 2;
        due(condition + " of " + value + ", reward", x.call("whose", at), !itDoes ? 0 : about == 0 ? value : 7);
    }

    /** Of ten RULES the first that holds, whichever it is; all CONDITIONS of it; none. */
    private static void firstThatHolds() {
        for (int first = 0; first <= 10; first++) {
            StringBuilder law = new StringBuilder();
            for (int rule = 0; rule < 10; rule++) {
                law.append(rule < first ? "h>998:F" : "h<999:O").append(rule + 1).append(",9;");
            }
            Face x = Face.galeOf("k0,0,0,100;");
            x.lay(law.toString(), 1);
            due("whose, from rule " + first, x.call("whose", 0, 0, 5, 0), first < 10 ? 2 : 1);
            due("days, from rule " + first, x.call("whose", 0, 0, 5, 1), first < 10 ? first + 1 : 0);
            due("reward, from rule " + first, x.call("whose", 0, 0, 5, 2), first < 10 ? 9 : 0);
        }
        for (int fails = 0; fails < 8; fails++) {
            Face x = Face.galeOf("k0,0,0,100;");
            StringBuilder law = new StringBuilder();
            for (int i = 0; i < 3; i++) {
                law.append(i == 0 ? "" : "&").append((fails >> i & 1) == 1 ? "h>5" : "h<6");
            }
            x.lay(law + ":O1,1;", 1);
            due(law.toString(), x.call("whose", 0, 0, 5, 0), fails == 0 ? 2 : 1);
        }
    }

    /** Days 0 to 999, hundredths 0 to 100, WORTH 0 to 999: the reward is cut. */
    private static void outcomes() {
        for (int worth : new int[] {0, 1, 99, 100, 101, 999}) {
            for (int hundredths : new int[] {0, 1, 50, 99, 100}) {
                for (int days : new int[] {0, 1, 999}) {
                    Face x = Face.galeOf("k0,0,0," + worth + ";");
                    x.lay(":F" + days + "," + hundredths + ";", 1);
                    due("whose", x.call("whose", 0, 0, 0, 0), 1);
                    due("days", x.call("whose", 0, 0, 0, 1), days);
                    due("reward of " + hundredths + " for " + worth, x.call("whose", 0, 0, 0, 2), worth * hundredths / 100);
                }
            }
        }
        for (int who = 0; who < 3; who++) {
            Face x = Face.galeOf("k0,0,0,1;");
            x.lay(":" + "FOC".charAt(who) + "0,0;", 1);
            due("whose", x.call("whose", 0, 0, 0, 0), who + 1);
        }
    }

    /** Surely first is who is so even at the latest of his HOURS and the earliest of the other's. */
    private static void touching() {
        Face x = Face.gale();
        for (int d = 0; d <= 9; d += 3) {
            for (int e = 0; e <= 9; e += 3) {
                due("a gap", x.call("two", 100, d, 101 + d + e, e, 0), 1);
                due("they touch", x.call("two", 100, d, 100 + d + e, e, 0), 0);
                due("one pair of none", x.call("two", 100, d, 100 + d + e, e, 3), 1);
                due("none of the other", x.call("two", 100, d, 100 + d + e, e, 2), 0);
                due("a gap, the other", x.call("two", 101 + d + e, d, 100, e, 0), 2);
                due("they touch, the other", x.call("two", 100 + d + e, d, 100, e, 0), 0);
                due("one pair of none", x.call("two", 100 + d + e, d, 100, e, 3), 1);
                due("none of the one", x.call("two", 100 + d + e, d, 100, e, 1), 0);
            }
        }
        due("at the same hour", x.call("two", 0, 0, 0, 0, 0), 0);
        due("at the same hour", x.call("two", 999, 0, 999, 0, 3), 1);
        due("from end to end", x.call("two", 0, 9, 999, 9, 1), 361);
        due("from end to end", x.call("two", 999, 9, 0, 9, 2), 361);
        // HOURS below 0 and above 999 are HOURS of such a pair, too
        due("below 0", x.call("two", 0, 9, 0, 0, 1), 9);
        due("above 999", x.call("two", 999, 0, 999, 9, 1), 9);
    }

    private static void everyPair() {
        for (int u = 40; u <= 60; u += 2) {
            Face gale = Face.gale();
            Face plain = Face.plain();
            for (int d = 0; d <= 9; d += 3) {
                for (int e = 0; e <= 9; e++) {
                    for (int what = 0; what <= 3; what++) {
                        due("two(50, " + d + ", " + u + ", " + e + ", " + what + ")",
                                gale.call("two", 50, d, u, e, what), plain.call("two", 50, d, u, e, what));
                    }
                }
            }
        }
    }
}
