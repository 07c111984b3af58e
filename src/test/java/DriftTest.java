/** Promises 6 to 8: drift, worlds, ashore. */
final class DriftTest {
    private static final int BAD = Checks.BAD, NONE = Checks.NONE;
    private static final Checks checks = new Checks("DriftTest");

    public static void main(String[] args) {
        ends();
        tides();
        winds();
        lastHour();
        badDrifts();
        worldsOfALoss();
        offTheBeach();
        forgottenWorlds();
        badWorlds();
        badAshore();
        checks.end();
    }

    private static void lands(String text, int[] from, int cell, int hour) {
        GaleBeach x = Checks.laid(text);
        String call = text + " drift from " + from[0] + ", " + from[1] + " at " + from[2] + " by " + from[3];
        checks.due(call + ": cell", x.drift(from[0], from[1], from[2], from[3], 0), cell);
        checks.due(call + ": hour", x.drift(from[0], from[1], from[2], from[3], 1), hour);
    }

    private static int[] at(int x, int y, int h, int s) {
        return new int[] {x, y, h, s};
    }

    private static void ends() {
        lands("n2;t0,-1;", at(5, 3, 0, 0), 0, 3);
        lands("n2;t0,-1;", at(9, 1, 0, 0), 0, 1);
        lands("n2;t0,-1;", at(10, 1, 0, 0), 1, 1);
        lands("n2;t0,-9;", at(10, 1, 0, 0), 1, 1);
        lands("n2;t1,-5;", at(18, 5, 7, 0), 1, 8);
        // off the beach at the very move that would bring it ashore
        lands("n2;t1,-5;", at(19, 5, 0, 0), NONE, NONE);
        lands("n2;t-1,-5;", at(0, 5, 0, 0), NONE, NONE);
        lands("n2;t-1,-5;", at(1, 5, 0, 0), 0, 1);
        lands("n16;t1,-5;", at(158, 5, 0, 0), 15, 1);
        lands("n16;t1,-5;", at(159, 5, 0, 0), NONE, NONE);
        lands("t0,1;t0,-9;", at(40, 99, 0, 0), NONE, NONE);
        // 99 off is not gone yet
        lands("t0,1;t0,-9;", at(40, 98, 0, 0), 4, 26);
        lands("", at(40, 1, 0, 10), NONE, NONE);
    }

    private static void tides() {
        lands("t0,0;t0,0;t1,-9;", at(5, 9, 0, 0), 0, 3);
        lands("t0,0;t0,0;t1,-9;", at(5, 9, 2, 0), 0, 3);
        lands("t0,0;t0,0;t1,-9;", at(5, 9, 3, 0), 0, 6);
        lands("t0,0;t0,0;t1,-9;", at(5, 9, 998, 0), 0, 999);
        lands("t0,0;t0,0;t1,-9;", at(5, 10, 996, 0), NONE, NONE);
        lands("t0,0;t0,0;t1,-9;", at(5, 9, 996, 0), 0, 999);
        lands("t9,-1;t9,-2;", at(5, 3, 0, 0), 2, 2);
        lands("t9,-1;t9,-2;", at(5, 3, 1, 0), 2, 3);
        lands("t9,-1;t9,-2;", at(5, 2, 1, 0), 1, 2);
    }

    private static void winds() {
        // cut towards 0: 9, not 10
        lands("w0,0,-99;", at(50, 10, 0, 1), 5, 2);
        lands("w0,-99,-99;", at(9, 9, 0, 1), 0, 1);
        lands("w0,99,-99;", at(1, 9, 0, 1), 1, 1);
        lands("w0,0,-9;", at(50, 1, 0, 1), NONE, NONE);
        lands("w0,0,-9;", at(50, 1, 0, 2), 5, 1);
        // tide and wind are not cut together
        lands("t0,1;w0,0,-15;", at(50, 1, 0, 1), NONE, NONE);
        lands("t0,1;w0,0,-15;", at(50, 1, 0, 2), 5, 1);
        lands("t1,-1;w0,15,-15;", at(57, 2, 0, 1), 5, 1);
        lands("w0,10,-10;", at(50, 10, 0, 10), 6, 1);
        lands("w0,0,-10;", at(50, 10, 0, 0), NONE, NONE);
        lands("w5,0,-10;", at(50, 10, 0, 10), 5, 6);
        lands("w5,0,-10;", at(50, 10, 5, 10), 5, 6);
        lands("w5,0,-10;", at(50, 10, 6, 10), 5, 7);
        // of the latest HOUR, in whatever order they are told
        lands("w5,0,-10;w0,0,10;", at(50, 1, 0, 10), 5, 11);
        lands("w0,0,10;w5,0,-10;", at(50, 1, 0, 10), 5, 11);
        lands("w9,0,9;w3,0,-1;w6,0,-2;w1,0,1;", at(50, 5, 0, 10), 5, 8);
        // of one HOUR the last one
        lands("w0,0,10;w0,0,-10;", at(50, 10, 0, 10), 5, 1);
        lands("w0,0,-10;w0,0,10;", at(50, 10, 0, 10), NONE, NONE);
        lands("w3,0,-10;w7,0,1;w3,0,-5;", at(50, 10, 0, 10), 5, 5);
        lands("w7,9,-9;w3,0,0;w7,-9,-9;w3,9,0;w7,0,-99;", at(20, 90, 0, 10), 5, 8);
        lands("w998,0,-9;", at(50, 9, 0, 10), 5, 999);
        lands("w999,0,-9;", at(50, 9, 0, 10), NONE, NONE);
    }

    private static void lastHour() {
        lands("t0,-1;", at(5, 1, 998, 0), 0, 999);
        lands("t0,-1;", at(5, 2, 998, 0), NONE, NONE);
        lands("t0,-1;", at(5, 1, 999, 0), NONE, NONE);
        lands("t0,-1;", at(5, 99, 900, 0), 0, 999);
        lands("t0,-1;", at(5, 99, 901, 0), NONE, NONE);
    }

    private static void badDrifts() {
        GaleBeach x = Checks.laid("n3;t0,-1;");
        int[][] bad = {{-1, 1, 0, 0, 0}, {30, 1, 0, 0, 0}, {0, 0, 0, 0, 0}, {0, 100, 0, 0, 0}, {0, -1, 0, 0, 0},
            {0, 1, -1, 0, 0}, {0, 1, 1000, 0, 0}, {0, 1, 0, -1, 0}, {0, 1, 0, 11, 0}, {0, 1, 0, 0, -1}, {0, 1, 0, 0, 2},
            {0, 1, 999, 0, 2}, {Integer.MAX_VALUE, 1, 0, 0, 0}, {0, Integer.MIN_VALUE, 0, 0, 0}};
        for (int[] b : bad) {
            checks.due("a bad drift", x.drift(b[0], b[1], b[2], b[3], b[4]), BAD);
        }
        checks.due("the edges", x.drift(29, 99, 0, 10, 0), 2);
        checks.due("the edges", x.drift(0, 1, 0, 0, 1), 1);
    }

    /** Each hour a share s goes s along and s in: 1 to 7 and 10 end in CELL 1, 8 and 9 in CELL 2, 0 never. */
    private static void worldsOfALoss() {
        GaleBeach x = Checks.laid("n16;w0,10,-10;k0,10,0,0;k4,4,0,0;l0,5,10,0,9;l1,5,10,3,3;l1,5,10,999,999;");
        worlds(x, 0, 110, 100);
        worlds(x, 1, 1, 1);
        worlds(x, 2, 1, 0);
        checks.due("cell 1", x.ashore(0, 1, 0, 999), 80);
        checks.due("cell 2", x.ashore(0, 2, 0, 999), 20);
        checks.due("cell 0", x.ashore(0, 0, 0, 999), 0);
        checks.due("cell 15", x.ashore(0, 15, 0, 999), 0);
        checks.due("hour 0", x.ashore(0, 1, 0, 0), 0);
        checks.due("hour 1", x.ashore(0, 1, 1, 1), 1);
        checks.due("hour 2", x.ashore(0, 2, 2, 2), 2);
        checks.due("hour 11", x.ashore(0, 2, 11, 11), 2);
        checks.due("hour 12", x.ashore(0, 2, 12, 999), 0);
        checks.due("hours 2 to 11", x.ashore(0, 2, 2, 11), 20);
        checks.due("hours 3 to 10", x.ashore(0, 2, 3, 10), 16);
        checks.due("another loss", x.ashore(1, 1, 6, 6), 1);
        checks.due("another loss", x.ashore(1, 1, 7, 999), 0);
    }

    private static void worlds(GaleBeach x, int loss, int all, int ashore) {
        checks.due("all worlds of " + loss, x.worlds(loss, 0), all);
        checks.due("ashore of " + loss, x.worlds(loss, 1), ashore);
        checks.due("gone of " + loss, x.worlds(loss, 2), all - ashore);
    }

    /** A LOSS may be let go beside the BEACH: only where a move ends is looked at. */
    private static void offTheBeach() {
        GaleBeach x = Checks.laid("n1;t-9,-1;k0,0,0,0;l0,18,1,0,0;l0,19,1,0,0;l0,18,2,0,0;");
        worlds(x, 0, 1, 1);
        checks.due("in cell 0", x.ashore(0, 0, 1, 1), 1);
        worlds(x, 1, 1, 0);
        worlds(x, 2, 1, 1);
    }

    private static void forgottenWorlds() {
        GaleBeach x = Checks.laid("t0,-1;k0,0,0,0;l0,5,1,0,0;");
        checks.due("cell 0", x.ashore(0, 0, 0, 999), 1);
        Checks.put(x, "t0,-1;k0,0,0,0;l0,15,1,0,0;");
        checks.due("cell 0 still", x.ashore(0, 0, 0, 999), 1);
        x.fault(false);
        checks.due("cell 0 still", x.ashore(0, 0, 0, 999), 1);
        x.lay(false);
        checks.due("cell 0 no more", x.ashore(0, 0, 0, 999), 0);
        checks.due("cell 1", x.ashore(0, 1, 0, 999), 1);
        Checks.put(x, "k0,0,0,0;l0,15,1,0,0;");
        x.lay(false);
        checks.due("gone in still water", x.worlds(0, 2), 1);
    }

    private static void badWorlds() {
        GaleBeach x = Checks.laid("n3;k0,0,0,0;l0,5,1,0,0;l0,5,1,0,0;");
        for (int[] b : new int[][] {{-1, 0}, {2, 0}, {8, 0}, {0, -1}, {0, 3}, {2, 3}, {Integer.MAX_VALUE, 0}}) {
            checks.due("bad worlds", x.worlds(b[0], b[1]), BAD);
        }
        checks.due("the last loss", x.worlds(1, 0), 1);
    }

    private static void badAshore() {
        GaleBeach x = Checks.laid("n3;k0,0,0,0;l0,5,1,0,0;l0,5,1,0,0;");
        int[][] bad = {{-1, 0, 0, 0}, {2, 0, 0, 0}, {0, -1, 0, 0}, {0, 3, 0, 0}, {0, 0, -1, 0}, {0, 0, 0, 1000}, {0, 0, 1000, 1000},
            {0, 0, 5, 4}, {0, 0, 0, -1}, {Integer.MIN_VALUE, 0, 0, 0}, {0, Integer.MAX_VALUE, 0, 0}};
        for (int[] b : bad) {
            checks.due("bad ashore", x.ashore(b[0], b[1], b[2], b[3]), BAD);
        }
        checks.due("the edges", x.ashore(1, 2, 0, 999), 0);
        checks.due("one hour", x.ashore(1, 2, 999, 999), 0);
    }
}
