/** Promises 24 and 25: whose, two. */
final class LawTest {
    private static final int BAD = Checks.BAD;
    private static final String KINDS = "n10;k0,0,0,0;k0,0,0,99;k0,0,0,100;k0,0,0,101;k0,0,0,999;";

    private static final Checks checks = new Checks("LawTest");

    public static void main(String[] args) {
        noLaw();
        firstRule();
        conditions();
        rewards();
        badWhose();
        finders();
        allPairs();
        badFinders();
        checks.end();
    }

    private static void whose(GaleBeach x, int[] at, int owner, int days, int reward) {
        String where = "kind " + at[0] + ", cell " + at[1] + ", hour " + at[2];
        checks.due("whose: " + where, x.whose(at[0], at[1], at[2], 0), owner);
        checks.due("days: " + where, x.whose(at[0], at[1], at[2], 1), days);
        checks.due("reward: " + where, x.whose(at[0], at[1], at[2], 2), reward);
    }

    private static int[] at(int kind, int cell, int hour) {
        return new int[] {kind, cell, hour};
    }

    private static void noLaw() {
        whose(Checks.laid(KINDS), at(4, 9, 999), 1, 0, 0);
        whose(Checks.laid(KINDS, "w>999:C5,5;"), at(4, 9, 999), 1, 0, 0);
    }

    private static void firstRule() {
        GaleBeach x = Checks.laid(KINDS, "w>100:O30,25;c<2&h>5:C9,0;k>1:F7,100;");
        whose(x, at(4, 0, 9), 2, 30, 249);
        whose(x, at(3, 0, 9), 2, 30, 25);
        whose(x, at(2, 0, 9), 3, 9, 0);
        whose(x, at(2, 1, 6), 3, 9, 0);
        whose(x, at(2, 1, 5), 1, 7, 100);
        whose(x, at(2, 2, 6), 1, 7, 100);
        whose(x, at(1, 2, 6), 1, 0, 0);
        whose(x, at(1, 1, 6), 3, 9, 0);
        whose(Checks.laid(KINDS, ":C999,100;:F1,1;"), at(4, 0, 0), 3, 999, 999);
        whose(Checks.laid(KINDS, "k<0:C1,1;:O2,2;:F3,3;"), at(4, 0, 0), 2, 2, 19);
    }

    private static void holds(String condition, int[] at, boolean itDoes) {
        GaleBeach x = Checks.laid(KINDS, condition + ":O1,0;");
        checks.due(condition, x.whose(at[0], at[1], at[2], 0), itDoes ? 2 : 1);
    }

    private static void conditions() {
        holds("w>100", at(2, 0, 0), false);
        holds("w>100", at(3, 0, 0), true);
        holds("w<100", at(2, 0, 0), false);
        holds("w<100", at(1, 0, 0), true);
        holds("k>2", at(2, 0, 0), false);
        holds("k>2", at(3, 0, 0), true);
        holds("k<2", at(2, 0, 0), false);
        holds("k<2", at(1, 0, 0), true);
        holds("c>4", at(0, 4, 9), false);
        holds("c>4", at(0, 5, 0), true);
        holds("c<4", at(0, 4, 0), false);
        holds("c<4", at(0, 3, 9), true);
        holds("h>70", at(0, 9, 70), false);
        holds("h>70", at(0, 0, 71), true);
        holds("h<70", at(0, 0, 70), false);
        holds("h<70", at(0, 9, 69), true);
        holds("h>1&h<5", at(0, 0, 3), true);
        holds("h>1&h<5", at(0, 0, 5), false);
        holds("h>1&h<5", at(0, 0, 1), false);
        holds("h>1&c>2&k>1", at(2, 3, 2), true);
        holds("h>1&c>2&k>1", at(2, 3, 1), false);
        holds("h>1&c>2&k>1", at(2, 2, 2), false);
        holds("h>1&c>2&k>1", at(1, 3, 2), false);
        holds("", at(0, 0, 0), true);
    }

    private static void rewards() {
        whose(Checks.laid(KINDS, ":F0,33;"), at(4, 0, 0), 1, 0, 329);
        whose(Checks.laid(KINDS, ":F0,33;"), at(2, 0, 0), 1, 0, 33);
        whose(Checks.laid(KINDS, ":F0,1;"), at(1, 0, 0), 1, 0, 0);
        whose(Checks.laid(KINDS, ":F0,1;"), at(2, 0, 0), 1, 0, 1);
        whose(Checks.laid(KINDS, ":F0,100;"), at(0, 0, 0), 1, 0, 0);
    }

    private static void badWhose() {
        GaleBeach x = Checks.laid(KINDS, ":C9,9;");
        int[][] bad = {{-1, 0, 0, 0}, {5, 0, 0, 0}, {0, -1, 0, 0}, {0, 10, 0, 0}, {0, 0, -1, 0}, {0, 0, 1000, 0}, {0, 0, 0, -1}, {0, 0, 0, 3},
            {Integer.MAX_VALUE, 0, 0, 0}, {0, Integer.MIN_VALUE, 0, 0}};
        for (int[] b : bad) {
            checks.due("bad whose", x.whose(b[0], b[1], b[2], b[3]), BAD);
        }
        whose(x, at(4, 9, 999), 3, 9, 89);
        checks.due("no kinds", new GaleBeach().whose(0, 0, 0, 0), BAD);
    }

    private static void two(int[] say, int first, int one, int other, int none) {
        GaleBeach x = new GaleBeach();
        int[] due = {first, one, other, none};
        for (int what = 0; what < 4; what++) {
            checks.due("two(" + say[0] + ", " + say[1] + ", " + say[2] + ", " + say[3] + ", " + what + ")",
                    x.two(say[0], say[1], say[2], say[3], what), due[what]);
        }
    }

    private static void finders() {
        two(new int[] {5, 0, 6, 0}, 1, 1, 0, 0);
        two(new int[] {6, 0, 5, 0}, 2, 0, 1, 0);
        two(new int[] {5, 0, 5, 0}, 0, 0, 0, 1);
        two(new int[] {5, 2, 9, 1}, 1, 15, 0, 0);
        two(new int[] {5, 2, 8, 1}, 0, 14, 0, 1);
        two(new int[] {9, 1, 5, 2}, 2, 0, 15, 0);
        two(new int[] {8, 1, 5, 2}, 0, 0, 14, 1);
        two(new int[] {5, 1, 5, 1}, 0, 3, 3, 3);
        two(new int[] {0, 9, 0, 9}, 0, 171, 171, 19);
        two(new int[] {999, 9, 0, 9}, 2, 0, 361, 0);
    }

    private static void allPairs() {
        GaleBeach x = new GaleBeach();
        for (int u = 0; u < 30; u += 3) {
            for (int d = 0; d <= 9; d += 3) {
                int one = x.two(12, d, u, 4, 1);
                int other = x.two(12, d, u, 4, 2);
                int none = x.two(12, d, u, 4, 3);
                checks.due("all pairs", one + other + none, (2 * d + 1) * 9);
                checks.due("surely", x.two(12, d, u, 4, 0), other + none == 0 ? 1 : one + none == 0 ? 2 : 0);
            }
        }
    }

    private static void badFinders() {
        GaleBeach x = new GaleBeach();
        int[][] bad = {{-1, 0, 0, 0, 0}, {1000, 0, 0, 0, 0}, {0, -1, 0, 0, 0}, {0, 10, 0, 0, 0}, {0, 0, -1, 0, 0}, {0, 0, 1000, 0, 0},
            {0, 0, 0, -1, 0}, {0, 0, 0, 10, 0}, {0, 0, 0, 0, -1}, {0, 0, 0, 0, 4}, {Integer.MAX_VALUE, 0, 0, 0, 0}, {0, Integer.MAX_VALUE, 0, 0, 1}};
        for (int[] b : bad) {
            checks.due("bad two", x.two(b[0], b[1], b[2], b[3], b[4]), BAD);
        }
        checks.due("the edges", x.two(999, 9, 999, 9, 3), 19);
    }
}
