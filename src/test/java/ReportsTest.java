/** Promises 12 to 15: report, there, missed, left. */
final class ReportsTest {
    private static final int BAD = Checks.BAD, FULL = Checks.FULL;
    /** KIND 0 shows to EYES 3, KIND 1 to EYES 6; the WORLDS of LOSS 0: CELL 1 at HOURS 1 to 5, of LOSS 1: two CELLS, of LOSS 2: none. */
    private static final String TEXT = "n4;t0,-1;w0,99,0;k0,0,3,5;k0,1,6,7;l0,15,1,0,4;l1,15,1,0,4;l0,5,99,950,959;";

    private static final Checks checks = new Checks("ReportsTest");

    public static void main(String[] args) {
        reporting();
        badReports();
        thereNotMay();
        missedAndFalse();
        leftWorlds();
        bad();
        checks.end();
    }

    private static void reporting() {
        GaleBeach x = Checks.laid(TEXT);
        for (int i = 1; i <= 24; i++) {
            checks.due("report", x.report(3, 999, 9, 1, i % 2 == 0), i);
            checks.due("reports", x.count(4), i);
        }
        checks.due("one too many", x.report(0, 0, 0, 0, true), FULL);
        checks.due("a bad one too many", x.report(4, 0, 0, 0, true), BAD);
        checks.due("reports", x.count(4), 24);
        checks.due("the bits of all 24", x.missed(1), 0x555555);
    }

    private static void badReports() {
        GaleBeach x = Checks.laid(TEXT);
        int[][] bad = {{-1, 0, 0, 0}, {4, 0, 0, 0}, {0, -1, 0, 0}, {0, 1000, 0, 0}, {0, 0, -1, 0}, {0, 0, 10, 0},
            {0, 0, 0, -1}, {0, 0, 0, 2}, {Integer.MIN_VALUE, 0, 0, 0}, {0, 0, Integer.MAX_VALUE, 0}};
        for (int[] b : bad) {
            checks.due("a bad report", x.report(b[0], b[1], b[2], b[3], true), BAD);
            checks.due("a bad report", x.report(b[0], b[1], b[2], b[3], false), BAD);
        }
        checks.due("no reports", x.count(4), 0);
        checks.due("the edges", x.report(0, 0, 0, 0, false), 1);
        checks.due("the edges", x.report(3, 999, 9, 1, false), 2);
    }

    private static void thereNotMay() {
        GaleBeach x = Checks.laid(TEXT);
        checks.due("may", x.there(0, 1, 10), 0);
        x.report(1, 10, 0, 0, true);
        checks.due("before", x.there(0, 1, 9), 0);
        checks.due("there", x.there(0, 1, 10), 1);
        checks.due("it lies", x.there(0, 1, 999), 1);
        checks.due("another kind", x.there(1, 1, 10), 0);
        checks.due("another cell", x.there(0, 2, 10), 0);
        x.report(1, 5, 2, 0, false);
        checks.due("eyes not good enough", x.there(0, 1, 5), 0);
        x.report(1, 5, 3, 0, false);
        checks.due("not", x.there(0, 1, 5), 2);
        checks.due("nor before", x.there(0, 1, 0), 2);
        checks.due("may behind it", x.there(0, 1, 6), 0);
        checks.due("there is first", x.there(0, 1, 10), 1);
        x.report(1, 20, 9, 0, false);
        checks.due("there all the same", x.there(0, 1, 15), 1);
        checks.due("not before", x.there(0, 1, 6), 2);
        checks.due("another kind", x.there(1, 1, 6), 0);
        checks.due("another cell", x.there(0, 2, 6), 0);
        x.report(1, 8, 5, 1, false);
        checks.due("eyes of the other kind", x.there(1, 1, 6), 0);
        x.report(1, 8, 6, 1, false);
        checks.due("eyes of the other kind", x.there(1, 1, 6), 2);
        checks.due("the last hour", x.there(0, 1, 999), 1);
    }

    private static void missedAndFalse() {
        GaleBeach x = Checks.laid(TEXT);
        checks.due("none missed", x.missed(0), 0);
        checks.due("none false", x.missed(1), 0);
        x.report(1, 10, 2, 0, false);
        x.report(1, 10, 3, 0, false);
        x.report(1, 9, 2, 0, false);
        x.report(1, 9, 3, 0, false);
        x.report(1, 11, 5, 1, false);
        x.report(2, 11, 2, 0, false);
        x.report(2, 11, 3, 0, false);
        checks.due("not there yet", x.missed(0), 0);
        checks.due("not there yet", x.missed(1), 0);
        x.report(1, 10, 0, 0, true);
        checks.due("missed at that hour", x.missed(0), 1);
        checks.due("false at that hour", x.missed(1), 2);
        x.report(1, 500, 0, 0, false);
        x.report(1, 500, 9, 0, false);
        checks.due("missed later", x.missed(0), 1 | 1 << 8);
        checks.due("false later", x.missed(1), 2 | 1 << 9);
        x.report(1, 11, 0, 1, true);
        checks.due("the other kind", x.missed(0), 1 | 1 << 8 | 1 << 4);
        checks.due("the other kind", x.missed(1), 2 | 1 << 9);
    }

    private static void leftWorlds() {
        GaleBeach x = Checks.laid(TEXT);
        lefts(x, 5, 10, 10);
        x.report(1, 3, 2, 0, false);
        x.report(1, 3, 5, 1, false);
        x.report(2, 999, 9, 0, false);
        lefts(x, 5, 10, 10);
        x.report(1, 3, 9, 0, true);
        lefts(x, 5, 10, 10);
        x.report(1, 3, 3, 0, false);
        lefts(x, 2, 10, 10);
        x.report(1, 2, 9, 0, false);
        lefts(x, 2, 10, 10);
        x.report(1, 1, 6, 1, false);
        lefts(x, 2, 9, 10);
        x.report(2, 4, 6, 1, false);
        lefts(x, 2, 5, 10);
        x.report(1, 999, 3, 0, false);
        x.report(0, 999, 3, 0, false);
        lefts(x, 0, 5, 10);
        x.report(2, 999, 6, 1, false);
        lefts(x, 0, 4, 10);
        x.report(1, 999, 6, 1, false);
        lefts(x, 0, 0, 10);
    }

    /** LOSS 2 has no WORLD ashore (it comes too late), so that none is ever gainsaid. */
    private static void lefts(GaleBeach x, int first, int second, int third) {
        checks.due("left(0)", x.left(0), first);
        checks.due("left(1)", x.left(1), second);
        checks.due("left(2)", x.left(2), third);
    }

    private static void bad() {
        GaleBeach x = Checks.laid(TEXT);
        for (int[] b : new int[][] {{-1, 0, 0}, {2, 0, 0}, {0, -1, 0}, {0, 4, 0}, {0, 0, -1}, {0, 0, 1000}}) {
            checks.due("bad there", x.there(b[0], b[1], b[2]), BAD);
        }
        checks.due("the edges", x.there(1, 3, 999), 0);
        checks.due("the edges", x.there(0, 0, 0), 0);
        for (int what : new int[] {-1, 2, Integer.MIN_VALUE, Integer.MAX_VALUE}) {
            checks.due("bad missed", x.missed(what), BAD);
        }
        for (int loss : new int[] {-1, 3, 8, Integer.MIN_VALUE, Integer.MAX_VALUE}) {
            checks.due("bad left", x.left(loss), BAD);
        }
    }
}
