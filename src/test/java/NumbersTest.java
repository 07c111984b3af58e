/** Promises 19 to 23: number, fell, most, glass, life. */
final class NumbersTest {
    private static final int BAD = Checks.BAD, NO = Checks.NO, FULL = Checks.FULL;
    private static final Checks checks = new Checks("NumbersTest");

    public static void main(String[] args) {
        numbering();
        felling();
        mostOfAll();
        mostByScan();
        wearing();
        living();
        checks.end();
    }

    private static GaleBeach found(int... numbers) {
        GaleBeach x = new GaleBeach();
        for (int v : numbers) {
            x.number(v);
        }
        return x;
    }

    private static void numbering() {
        GaleBeach x = new GaleBeach();
        for (int v : new int[] {0, -1, 10000, Integer.MIN_VALUE, Integer.MAX_VALUE}) {
            checks.due("a bad number", x.number(v), BAD);
        }
        checks.due("the least", x.number(1), 1);
        checks.due("the greatest", x.number(9999), 2);
        checks.due("it was", x.number(1), NO);
        checks.due("it was", x.number(9999), NO);
        for (int i = 3; i <= 20; i++) {
            checks.due("a number", x.number(100 + i), i);
            checks.due("numbers", x.count(5), i);
        }
        checks.due("one too many", x.number(500), FULL);
        checks.due("it was, and all is full", x.number(1), NO);
        checks.due("it was, the last", x.number(120), NO);
        checks.due("bad, and all is full", x.number(0), BAD);
        checks.due("numbers", x.count(5), 20);
    }

    private static void fell(GaleBeach x, int greatest, int above, int below) {
        checks.due("at least", x.fell(0), greatest);
        checks.due("mean above", x.fell(1), above);
        checks.due("mean below", x.fell(2), below);
    }

    private static void felling() {
        GaleBeach x = new GaleBeach();
        for (int what = 0; what <= 2; what++) {
            checks.due("none found", x.fell(what), NO);
        }
        checks.due("bad", x.fell(-1), BAD);
        checks.due("bad", x.fell(3), BAD);
        fell(found(1), 1, 1, 1);
        fell(found(9999), 9999, 19997, 1);
        fell(found(7, 3), 7, 19, 2);
        fell(found(3, 8), 8, 11, 1);
        fell(found(1, 2, 3, 6), 6, 13, 2);
        fell(found(1, 2, 3, 4), 4, 4, 1);
        fell(found(1, 2, 3, 4, 5, 9), 9, 19, 2);
        fell(found(1, 2, 3, 4, 5, 10), 10, 32, 3);
        fell(found(1, 2, 3, 4, 5, 6, 7, 8, 9, 10, 11, 12, 13, 14, 15, 16, 17, 18, 19, 9999), 9999, 209959, 20);
        GaleBeach y = found(5);
        checks.due("bad", y.fell(3), BAD);
        checks.due("bad", y.fell(Integer.MIN_VALUE), BAD);
    }

    private static void mostOfAll() {
        GaleBeach none = new GaleBeach();
        checks.due("none found", none.most(1, 2), NO);
        checks.due("none found, bad", none.most(2, 1), BAD);
        GaleBeach x = found(5);
        int[][] bad = {{0, 1}, {1, 0}, {1001, 1001}, {1, 1001}, {2, 1}, {-1, 5}, {Integer.MIN_VALUE, 1}, {1, Integer.MAX_VALUE}};
        for (int[] b : bad) {
            checks.due("bad most", x.most(b[0], b[1]), BAD);
        }
        checks.due("half", x.most(1, 2), 10);
        checks.due("all", x.most(1000, 1000), 5);
        checks.due("the least odds", x.most(1, 1000), 5000);
        checks.due("a third, cut", found(1, 2).most(1, 3), 3);
        checks.due("up to 99999", found(9999).most(1, 1000), 99999);
        checks.due("not up to 99999", found(9999).most(1, 9), 89991);
        checks.due("up to 99999 by a tenth", found(9999).most(1, 10), 99990);
    }

    private static void mostByScan() {
        int[][] sets = {{1}, {3, 2, 1}, {17, 203, 96, 41, 150}, {9999, 9998, 9997}, {40, 4, 400, 4000},
            {1, 2, 3, 4, 5, 6, 7, 8, 9, 10, 11, 12, 13, 14, 15, 16, 17, 18, 19, 20}};
        int[][] odds = {{1, 2}, {1, 1000}, {999, 1000}, {1, 1}, {1, 20}, {19, 20}, {7, 13}, {1000, 1000}, {1, 999}};
        for (int[] set : sets) {
            GaleBeach x = found(set);
            for (int[] o : odds) {
                checks.due("most by scan", x.most(o[0], o[1]), scanned(set, o[0], o[1]));
            }
        }
    }

    private static int scanned(int[] set, int a, int b) {
        int greatest = 0;
        for (int v : set) {
            greatest = Math.max(greatest, v);
        }
        int best = -1;
        for (int all = greatest; all <= 99999; all++) {
            long odds = 1000000000L;
            for (int i = 0; i < set.length; i++) {
                odds = odds * (greatest - i) / (all - i);
            }
            best = odds >= 1000000000L * a / b ? all : best;
        }
        return best;
    }

    private static void wearing() {
        GaleBeach x = new GaleBeach();
        int[][] due = {{100, 10, 0, 100}, {100, 10, 1, 89}, {100, 10, 2, 80}, {100, 10, 5, 56}, {1, 0, 1, 0}, {1, 0, 99, 0}, {1, 99, 0, 1},
            {999, 0, 99, 900}, {999, 99, 1, 9}, {999, 99, 2, 0}, {999, 99, 3, 0}, {50, 1, 1, 49}, {100, 1, 1, 98}, {199, 1, 1, 197}, {200, 1, 1, 197}};
        for (int[] d : due) {
            checks.due("glass " + d[0] + ", " + d[1] + ", " + d[2], x.glass(d[0], d[1], d[2]), d[3]);
        }
        int[][] bad = {{0, 0, 0}, {1000, 0, 0}, {1, -1, 0}, {1, 100, 0}, {1, 0, -1}, {1, 0, 100}, {-1, 0, 0},
            {Integer.MAX_VALUE, 0, 0}, {1, Integer.MIN_VALUE, 0}, {1, 0, Integer.MAX_VALUE}};
        for (int[] b : bad) {
            checks.due("bad glass", x.glass(b[0], b[1], b[2]), BAD);
        }
    }

    private static void living() {
        GaleBeach x = new GaleBeach();
        int[][] due = {{1, 0, 1}, {1, 99, 1}, {2, 0, 2}, {999, 0, 999}, {100, 10, 27}, {999, 99, 2}, {500, 4, 87}, {30, 99, 1}, {2, 99, 1}};
        for (int[] d : due) {
            checks.due("life " + d[0] + ", " + d[1], x.life(d[0], d[1]), d[2]);
        }
        int[][] bad = {{0, 0}, {1000, 0}, {1, -1}, {1, 100}, {Integer.MIN_VALUE, 0}, {1, Integer.MAX_VALUE}};
        for (int[] b : bad) {
            checks.due("bad life", x.life(b[0], b[1]), BAD);
        }
        for (int z = 1; z <= 999; z += 7) {
            int years = x.life(z, 6);
            checks.due("nothing is left", x.glass(z, 6, years), 0);
            checks.holds("something was left", x.glass(z, 6, years - 1) > 0);
        }
    }
}
