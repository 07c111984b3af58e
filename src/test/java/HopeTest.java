/** Promises 16 to 18: hope, walk, walks. */
final class HopeTest {
    private static final int BAD = Checks.BAD, NONE = Checks.NONE;
    /** At HOUR 1: LOSS 0 (KIND 0, EYES 3) in CELL 0 or 1, LOSS 1 (KIND 1, EYES 0) in CELL 0, 1 or 2. */
    private static final String TEXT = "n6;t0,-1;w0,99,0;k0,1,3,7;k0,2,0,100;l0,5,1,0,0;l1,5,1,0,0;";

    private static final Checks checks = new Checks("HopeTest");

    public static void main(String[] args) {
        hoping();
        hopingWithReports();
        goneWorldsCount();
        greatHopes();
        walking();
        walkingTwice();
        notTheGreatestFirst();
        badHope();
        badWalk();
        badWalks();
        checks.end();
    }

    private static void hoping() {
        GaleBeach x = Checks.laid(TEXT);
        checks.due("cell 0", x.hope(0, 0, 1, 9), 36833333L);
        checks.due("cells 0 to 1", x.hope(0, 1, 1, 9), 73666666L);
        checks.due("cells 0 to 2", x.hope(0, 2, 1, 9), 107000000L);
        checks.due("cells 0 to 5", x.hope(0, 5, 999, 9), 107000000L);
        checks.due("cell 2", x.hope(2, 2, 1, 9), 33333333L);
        checks.due("cells 3 to 5", x.hope(3, 5, 1, 9), 0);
        checks.due("too early", x.hope(0, 5, 0, 9), 0);
        checks.due("eyes 3", x.hope(0, 1, 1, 3), 73666666L);
        checks.due("eyes 2", x.hope(0, 1, 1, 2), 66666666L);
        checks.due("eyes 0", x.hope(0, 0, 1, 0), 33333333L);
    }

    private static void hopingWithReports() {
        GaleBeach x = Checks.laid(TEXT);
        x.report(0, 1, 0, 1, false);
        checks.due("cell 0", x.hope(0, 0, 1, 9), 3500000L);
        checks.due("cell 1", x.hope(1, 1, 1, 9), 53500000L);
        checks.due("all", x.hope(0, 5, 1, 9), 107000000L);
        x.report(1, 1, 0, 1, true);
        x.report(1, 1, 2, 0, false);
        x.report(1, 0, 9, 0, false);
        checks.due("these gainsay nothing", x.hope(1, 1, 1, 9), 53500000L);
        x.report(1, 500, 0, 1, false);
        checks.due("cell 1", x.hope(1, 1, 1, 9), 3500000L);
        checks.due("cell 2", x.hope(2, 2, 1, 9), 100000000L);
        x.report(2, 1, 0, 1, false);
        checks.due("no world is left", x.hope(0, 5, 1, 9), 7000000L);
    }

    /** GONE WORLDS are LEFT, too: of four shares 2 and 3 go off this BEACH. */
    private static void goneWorldsCount() {
        GaleBeach x = Checks.laid("n2;t0,-1;w0,99,0;k0,3,0,100;l0,5,1,0,0;");
        checks.due("one of four", x.hope(0, 0, 1, 0), 25000000L);
        checks.due("two of four", x.hope(0, 1, 1, 0), 50000000L);
        x.report(0, 1, 0, 0, false);
        checks.due("one of three", x.hope(0, 1, 1, 0), 33333333L);
    }

    private static void greatHopes() {
        GaleBeach x = Checks.laid("n1;t0,-9;k0,10,0,999;" + "l0,5,9,0,9;".repeat(8));
        checks.due("all of 110 for eight", x.hope(0, 0, 999, 0), 7992000000L);
        checks.due("by hour 5", x.hope(0, 0, 5, 0), 3996000000L);
        checks.due("walk", x.walk(1, 999, 0, 1), 7992000000L);
        checks.due("walks", x.walks(1, 1, 999, 0, -1), 7992000000L);
    }

    private static void walking() {
        GaleBeach x = Checks.laid(TEXT);
        walk(x, new int[] {1, 1, 9}, 0, 36833333L);
        walk(x, new int[] {1, 1, 2}, 0, 33333333L);
        walk(x, new int[] {2, 1, 9}, 0, 73666666L);
        walk(x, new int[] {6, 1, 9}, 0, 107000000L);
        walk(x, new int[] {6, 0, 9}, 0, 0);
        x.report(0, 1, 0, 1, false);
        walk(x, new int[] {1, 1, 9}, 1, 53500000L);
        walk(x, new int[] {2, 1, 9}, 1, 103500000L);
        walk(x, new int[] {2, 1, 2}, 1, 100000000L);
        walk(x, new int[] {3, 1, 9}, 0, 107000000L);
        walk(x, new int[] {3, 1, 2}, 0, 100000000L);
        x.report(1, 1, 0, 1, false);
        walk(x, new int[] {1, 1, 9}, 2, 100000000L);
        walk(x, new int[] {2, 1, 9}, 1, 103500000L);
        GaleBeach last = Checks.laid("n16;t0,-1;k0,0,0,1;l0,159,1,0,0;");
        walk(last, new int[] {1, 999, 0}, 15, 1000000L);
        walk(last, new int[] {3, 999, 0}, 13, 1000000L);
        walk(last, new int[] {16, 999, 0}, 0, 1000000L);
    }

    private static void walk(GaleBeach x, int[] how, int begin, long hope) {
        checks.due("walk of " + how[0], x.walk(how[0], how[1], how[2], 0), begin);
        checks.due("hope of a walk of " + how[0], x.walk(how[0], how[1], how[2], 1), hope);
    }

    private static void walks(GaleBeach x, int n, long sum, int... begins) {
        int m = begins.length;
        checks.due(m + " walks of " + n, x.walks(n, m, 1, 9, -1), sum);
        for (int i = 0; i < m; i++) {
            checks.due("walk " + i + " of " + m + " of " + n, x.walks(n, m, 1, 9, i), begins[i]);
        }
        checks.due("beyond", x.walks(n, m, 1, 9, m), NONE);
        checks.due("far beyond", x.walks(n, m, 1, 9, Integer.MAX_VALUE), NONE);
    }

    private static void walkingTwice() {
        GaleBeach x = Checks.laid(TEXT);
        walks(x, 1, 36833333L, 0);
        walks(x, 1, 73666666L, 0, 1);
        walks(x, 1, 106999999L, 0, 1, 2);
        walks(x, 2, 106999999L, 0, 2);
        walks(x, 2, 106999999L, 0, 2, 4);
        walks(x, 3, 107000000L, 0, 3);
        walks(x, 6, 107000000L, 0);
        for (int i = -1; i <= 3; i++) {
            checks.due("no room for three of 3", x.walks(3, 3, 1, 9, i), NONE);
            checks.due("no room for two of 4", x.walks(4, 2, 1, 9, i), NONE);
            checks.due("no room for two of 6", x.walks(6, 2, 1, 9, i), NONE);
        }
        GaleBeach still = new GaleBeach();
        walks(still, 2, 0, 0, 2, 4);
        walks(still, 4, 0, 0, 4);
        walks(still, 8, 0, 0);
    }

    /** Worths 5, 6, 5 in CELLS 1, 2, 3 and 1 in CELL 6: two walks of 2 leave the best walk alone. */
    private static void notTheGreatestFirst() {
        GaleBeach x = Checks.laid("n8;t0,-1;k0,0,0,5;k0,0,0,6;k0,0,0,1;l0,15,1,0,0;l1,25,1,0,0;l0,35,1,0,0;l2,65,1,0,0;");
        walks(x, 2, 11000000L, 1);
        walks(x, 2, 16000000L, 0, 2);
        walks(x, 2, 17000000L, 0, 2, 5);
        walks(x, 1, 6000000L, 2);
        walks(x, 1, 11000000L, 1, 2);
        walks(x, 1, 16000000L, 1, 2, 3);
        walks(x, 4, 17000000L, 0, 4);
    }

    private static void badHope() {
        GaleBeach x = Checks.laid(TEXT);
        int[][] bad = {{-1, 0, 0, 0}, {0, 6, 0, 0}, {6, 6, 0, 0}, {3, 2, 0, 0}, {0, 0, -1, 0}, {0, 0, 1000, 0}, {0, 0, 0, -1},
            {0, 0, 0, 10}, {0, -1, 0, 0}, {Integer.MIN_VALUE, Integer.MAX_VALUE, 0, 0}};
        for (int[] b : bad) {
            checks.due("bad hope", x.hope(b[0], b[1], b[2], b[3]), BAD);
        }
        checks.due("the edges", x.hope(5, 5, 999, 9), 0);
    }

    private static void badWalk() {
        GaleBeach x = Checks.laid(TEXT);
        int[][] bad = {{0, 0, 0, 0}, {7, 0, 0, 0}, {-1, 0, 0, 0}, {1, -1, 0, 0}, {1, 1000, 0, 0}, {1, 0, -1, 0}, {1, 0, 10, 0},
            {1, 0, 0, -1}, {1, 0, 0, 2}, {Integer.MAX_VALUE, 0, 0, 0}};
        for (int[] b : bad) {
            checks.due("bad walk", x.walk(b[0], b[1], b[2], b[3]), BAD);
        }
        checks.due("the edges", x.walk(6, 999, 9, 0), 0);
    }

    private static void badWalks() {
        GaleBeach x = Checks.laid(TEXT);
        int[][] bad = {{0, 1, 0, 0, 0}, {7, 1, 0, 0, 0}, {1, 0, 0, 0, 0}, {1, 4, 0, 0, 0}, {1, 1, -1, 0, 0}, {1, 1, 1000, 0, 0},
            {1, 1, 0, -1, 0}, {1, 1, 0, 10, 0}, {1, 1, 0, 0, -2}, {6, 3, 0, 0, -2}, {6, 3, 0, 10, 0}, {1, 1, 0, 10, 9},
            {Integer.MAX_VALUE, 3, 0, 0, 0}, {1, Integer.MAX_VALUE, 0, 0, 0}, {1, 1, 0, 0, Integer.MIN_VALUE}};
        for (int[] b : bad) {
            checks.due("bad walks", x.walks(b[0], b[1], b[2], b[3], b[4]), BAD);
        }
        checks.due("the edges", x.walks(2, 3, 999, 9, 2), 4);
    }
}
