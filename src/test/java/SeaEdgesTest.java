/** The edges of DRIFT, WORLDS and ASHORE (promises 6 to 8). */
final class SeaEdgesTest {
    private static final int BAD = Checks.BAD, NONE = Checks.NONE;
    private static final Checks checks = new Checks("SeaEdgesTest");

    public static void main(String[] args) {
        cells();
        endsOfTheBeach();
        farOff();
        goneComesFirst();
        tidesGoRound();
        windsByHour();
        windsInAnyOrder();
        cutAlong();
        cutOff();
        cutApart();
        lastHours();
        sharesAndHours();
        ashoreHours();
        besideTheBeach();
        checks.end();
    }

    private static void lands(Face x, long[] from, long cell, long hour) {
        long[] args = {from[0], from[1], from[2], from[3], 0};
        checks.due(Face.described("drift", args), x.call("drift", args), cell);
        args[4] = 1;
        checks.due(Face.described("drift", args), x.call("drift", args), hour);
    }

    private static long[] at(long x, long y, long h, long s) {
        return new long[] {x, y, h, s};
    }

    private static void isGone(Face x, long[] from) {
        lands(x, from, NONE, NONE);
    }

    /** "CELL c is X from 10 c to 10 c and 9". */
    private static void cells() {
        Face x = Face.galeOf("n16;t0,-1;");
        for (int place = 0; place < 160; place++) {
            lands(x, at(place, 1, 0, 0), place / 10, 1);
        }
    }

    /** X from 0 to 10 N less 1, for each N: where it begins and where a move ends. */
    private static void endsOfTheBeach() {
        for (int cells = 1; cells <= 16; cells++) {
            int last = 10 * cells - 1;
            Face still = Face.galeOf("n" + cells + ";t0,-1;");
            lands(still, at(0, 1, 0, 0), 0, 1);
            lands(still, at(last, 1, 0, 0), cells - 1, 1);
            lands(still, at(-1, 1, 0, 0), BAD, BAD);
            lands(still, at(last + 1, 1, 0, 0), BAD, BAD);
            Face up = Face.galeOf("n" + cells + ";t1,-1;");
            lands(up, at(last - 1, 1, 0, 0), cells - 1, 1);
            isGone(up, at(last, 1, 0, 0));
            lands(up, at(last - 2, 2, 0, 0), cells - 1, 2);
            isGone(up, at(last - 1, 2, 0, 0));
            Face down = Face.galeOf("n" + cells + ";t-1,-1;");
            lands(down, at(1, 1, 0, 0), 0, 1);
            isGone(down, at(0, 1, 0, 0));
            lands(down, at(2, 2, 0, 0), 0, 2);
            isGone(down, at(1, 2, 0, 0));
        }
        Face eight = Face.gale();
        isGone(eight, at(79, 99, 0, 10));
        lands(eight, at(80, 99, 0, 10), BAD, BAD);
    }

    /** Y above 99 is GONE, 99 is not; 0 and below is ASHORE, 1 is not. */
    private static void farOff() {
        Face x = Face.galeOf("n1;t0,1;t0,-9;");
        lands(x, at(5, 98, 0, 0), 0, 26);
        isGone(x, at(5, 99, 0, 0));
        lands(x, at(5, 99, 1, 0), 0, 26);
        Face in = Face.galeOf("n1;t0,-5;");
        lands(in, at(5, 4, 0, 0), 0, 1);
        lands(in, at(5, 5, 0, 0), 0, 1);
        lands(in, at(5, 6, 0, 0), 0, 2);
        lands(in, at(5, 10, 0, 0), 0, 2);
        lands(in, at(5, 11, 0, 0), 0, 3);
        Face out = Face.galeOf("n1;t0,5;");
        isGone(out, at(5, 94, 0, 0));
        isGone(out, at(5, 95, 0, 0));
        Face back = Face.galeOf("n1;w0,0,94;w1,0,-99;");
        lands(back, at(5, 5, 0, 10), 0, 2);
        isGone(back, at(5, 6, 0, 10));
        lands(in, at(5, 0, 0, 0), BAD, BAD);
        lands(in, at(5, 100, 0, 0), BAD, BAD);
    }

    /** What leaves the BEACH by the move that takes it to Y 0 is GONE, not ASHORE. */
    private static void goneComesFirst() {
        for (int off : new int[] {-1, -9}) {
            Face right = Face.galeOf("n1;t1," + off + ";");
            lands(right, at(8, 1, 0, 0), 0, 1);
            isGone(right, at(9, 1, 0, 0));
            Face left = Face.galeOf("n1;t-1," + off + ";");
            lands(left, at(1, 1, 0, 0), 0, 1);
            isGone(left, at(0, 1, 0, 0));
        }
    }

    /** HOUR modulo how many are told, from one TIDE to twelve, at each turn. */
    private static void tidesGoRound() {
        for (int tides = 1; tides <= 12; tides++) {
            for (int which = 0; which < tides; which += Math.max(1, tides - 1)) {
                Face x = Face.galeOf("t0,0;".repeat(which) + "t0,-1;" + "t0,0;".repeat(tides - which - 1));
                for (int start = 0; start <= 2 * tides; start++) {
                    int waits = Math.floorMod(which - start, tides);
                    lands(x, at(5, 1, start, 0), 0, start + waits + 1);
                    lands(x, at(5, 2, start, 0), 0, start + waits + tides + 1);
                }
            }
        }
    }

    /** From HOUR H on, H too. */
    private static void windsByHour() {
        for (int hour : new int[] {0, 1, 2, 500, 997, 998}) {
            Face x = Face.galeOf("w" + hour + ",0,-10;");
            for (int start = Math.max(0, hour - 2); start <= Math.min(998, hour + 2); start++) {
                lands(x, at(5, 10, start, 10), 0, Math.max(start, hour) + 1);
            }
        }
        Face last = Face.galeOf("w999,0,-99;");
        isGone(last, at(5, 1, 0, 10));
        isGone(last, at(5, 1, 999, 10));
        // a wind ends where the next one begins, and may be none
        Face x = Face.galeOf("w0,0,-1;w5,0,0;w9,0,-1;");
        lands(x, at(5, 5, 0, 10), 0, 5);
        lands(x, at(5, 6, 0, 10), 0, 10);
        lands(x, at(5, 1, 5, 10), 0, 10);
        lands(x, at(5, 1, 4, 10), 0, 5);
    }

    /** Twelve winds, each with a way along and off of its own, told in several orders: the same drifts. */
    private static void windsInAnyOrder() {
        int[][] orders = {{0, 1, 2, 3, 4, 5, 6, 7, 8, 9, 10, 11}, {11, 10, 9, 8, 7, 6, 5, 4, 3, 2, 1, 0},
            {6, 0, 11, 3, 9, 1, 7, 5, 10, 2, 8, 4}, {5, 6, 4, 7, 3, 8, 2, 9, 1, 10, 0, 11}};
        for (int[] order : orders) {
            StringBuilder text = new StringBuilder("n16;");
            for (int i : order) {
                text.append('w').append(2 * i).append(',').append(i % 3 == 0 ? 10 + i : -i).append(',').append(-i - 1).append(';');
            }
            Face gale = Face.galeOf(text.toString());
            Face plain = Face.plainOf(text.toString());
            for (int y = 9; y < 99; y += 10) {
                for (int start = 0; start < 24; start += 3) {
                    lands(gale, at(80, y, start, 10), plain.call("drift", 80, y, start, 10, 0), plain.call("drift", 80, y, start, 10, 1));
                }
            }
        }
        // of one HOUR the last one, wherever it is told
        Face x = Face.galeOf("n16;w4,0,-1;w2,0,-1;w4,50,-1;w2,30,0;w4,10,-1;w0,0,0;w2,20,0;");
        lands(x, at(40, 1, 0, 10), 9, 5);
        lands(x, at(40, 1, 4, 10), 5, 5);
        lands(x, at(29, 2, 3, 10), 6, 6);
    }

    private static int cut(int share, int wind) {
        int size = share * Math.abs(wind) / 10;
        return wind < 0 ? -size : size;
    }

    /** "s times the WIND's by 10, cut towards 0": each SHARE with each wind along, by the CELL it just reaches. */
    private static void cutAlong() {
        for (int wind = -99; wind <= 99; wind++) {
            Face x = Face.galeOf("n16;t0,-1;w0," + wind + ",0;");
            for (int share = 0; share <= 10; share++) {
                int goal = wind < 0 ? 50 : 100;
                int from = goal - cut(share, wind);
                lands(x, at(from, 1, 0, share), goal / 10, 1);
                lands(x, at(from - 1, 1, 0, share), goal / 10 - 1, 1);
            }
        }
    }

    /** Likewise off the BEACH: ashore at once with Y 0, not with Y 1; GONE with Y 100, not with 99. */
    private static void cutOff() {
        for (int wind = -99; wind <= 99; wind++) {
            Face x = Face.galeOf("n1;w0,0," + wind + ";w1,0,0;");
            for (int share = 0; share <= 10; share++) {
                int way = cut(share, wind);
                if (way < 0) {
                    lands(x, at(5, -way, 0, share), 0, 1);
                }
                if (way < 0 && way > -99) {
                    isGone(x, at(5, 1 - way, 0, share));
                }
            }
            Face y = Face.galeOf("n1;w0,0," + wind + ";w1,0,-99;");
            for (int share = 0; share <= 10 && wind > 0; share++) {
                int way = cut(share, wind);
                if (share == 10 && way < 99) {
                    lands(y, at(5, 99 - way, 0, share), 0, 2);
                }
                if (way > 0) {
                    isGone(y, at(5, 100 - way, 0, share));
                }
            }
        }
    }

    /** Tide and wind are not cut together, nor the winds of two HOURS. */
    private static void cutApart() {
        lands(Face.galeOf("n4;t1,-1;w0,19,0;"), at(17, 1, 0, 1), 1, 1);
        lands(Face.galeOf("n4;t1,-1;w0,20,0;"), at(17, 1, 0, 1), 2, 1);
        lands(Face.galeOf("n4;t-1,-1;w0,-19,0;"), at(12, 1, 0, 1), 1, 1);
        lands(Face.galeOf("n4;t-1,-1;w0,-20,0;"), at(12, 1, 0, 1), 0, 1);
        lands(Face.galeOf("n4;t0,-1;w0,19,0;"), at(18, 2, 0, 1), 2, 2);
        lands(Face.galeOf("n4;t0,-1;w0,19,0;"), at(17, 2, 0, 1), 1, 2);
        isGone(Face.galeOf("n4;w0,0,-9;"), at(5, 1, 0, 1));
        lands(Face.galeOf("n4;t0,1;w0,0,-19;"), at(5, 1, 0, 2), 0, 1);
        isGone(Face.galeOf("n4;t0,1;w0,0,-19;"), at(5, 1, 0, 1));
    }

    /** ASHORE by HOUR 999, that one too. */
    private static void lastHours() {
        Face x = Face.galeOf("n1;t0,-1;");
        for (int y = 1; y <= 99; y += 7) {
            lands(x, at(5, y, 999 - y, 0), 0, 999);
            isGone(x, at(5, y, 1000 - y, 0));
        }
        isGone(x, at(5, 1, 999, 0));
        lands(x, at(5, 1, 1000, 0), BAD, BAD);
        lands(x, at(5, 1, 0, 0), 0, 1);
        lands(x, at(5, 99, 0, 0), 0, 99);
    }

    /** WORLDS: each SHARE of its KIND with each of its HOURS, 1 to 110 of them. */
    private static void sharesAndHours() {
        for (int low = 0; low <= 10; low += 5) {
            for (int high = low; high <= 10; high++) {
                for (int more = 0; more <= 9; more += 3) {
                    Face x = Face.galeOf("n1;t0,-1;k" + low + "," + high + ",0,0;l0,5,1,7," + (7 + more) + ";");
                    int all = (high - low + 1) * (more + 1);
                    worlds(x, 0, all, all);
                    checks.due("the first hour", x.call("ashore", 0, 0, 8, 8), high - low + 1);
                    checks.due("the last hour", x.call("ashore", 0, 0, 8 + more, 8 + more), high - low + 1);
                    checks.due("before", x.call("ashore", 0, 0, 0, 7), 0);
                    checks.due("behind", x.call("ashore", 0, 0, 9 + more, 999), 0);
                }
            }
        }
        // ten HOURS to let it go, of which those up to 998 bring it ashore
        worlds(Face.galeOf("n1;t0,-1;k0,0,0,0;l0,5,1,990,999;"), 0, 10, 9);
        worlds(Face.galeOf("n1;t0,-1;k0,10,0,0;l0,5,10,990,999;"), 0, 110, 0);
        worlds(Face.galeOf("n1;t0,-1;k0,10,0,0;l0,5,9,990,999;"), 0, 110, 11);
        worlds(Face.galeOf("n1;k0,10,0,0;l0,5,1,0,9;"), 0, 110, 0);
        // by the wind's share: 0 never, 1 to 10 at once
        worlds(Face.galeOf("n1;w0,0,-10;k0,10,0,0;l0,5,1,0,9;"), 0, 110, 100);
        worlds(Face.galeOf("n1;w0,0,-10;k1,10,0,0;l0,5,1,0,9;"), 0, 100, 100);
        worlds(Face.galeOf("n1;w0,0,-10;k0,0,0,0;l0,5,1,0,9;"), 0, 10, 0);
    }

    private static void worlds(Face x, int loss, int all, int ashore) {
        checks.due("all worlds", x.call("worlds", loss, 0), all);
        checks.due("worlds ashore", x.call("worlds", loss, 1), ashore);
        checks.due("worlds gone", x.call("worlds", loss, 2), all - ashore);
    }

    /** From HOUR a to b, both too; b before a is BAD. */
    private static void ashoreHours() {
        Face x = Face.galeOf("n2;t0,-1;k0,0,0,0;l0,15,1,4,4;l0,15,1,998,998;l0,15,1,0,0;");
        for (int a = 3; a <= 7; a++) {
            for (int b = 3; b <= 7; b++) {
                checks.due("ashore from " + a + " to " + b, x.call("ashore", 0, 1, a, b), b < a ? BAD : a <= 5 && b >= 5 ? 1 : 0);
                checks.due("in the other cell", x.call("ashore", 0, 0, a, b), b < a ? BAD : 0);
            }
        }
        checks.due("at 999", x.call("ashore", 1, 1, 999, 999), 1);
        checks.due("up to 998", x.call("ashore", 1, 1, 0, 998), 0);
        checks.due("up to 1000", x.call("ashore", 1, 1, 0, 1000), BAD);
        checks.due("at 0", x.call("ashore", 2, 1, 0, 0), 0);
        checks.due("at 0 to 1", x.call("ashore", 2, 1, 0, 1), 1);
        checks.due("at 1", x.call("ashore", 2, 1, 1, 1), 1);
        checks.due("from 2", x.call("ashore", 2, 1, 2, 999), 0);
        checks.due("from 999 to 0", x.call("ashore", 2, 1, 999, 0), BAD);
    }

    /** A LOSS may be let go at X up to 159 whatever N is; on the BEACH is what its moves end on. */
    private static void besideTheBeach() {
        Face x = Face.galeOf("n1;w0,-99,-1;w1,-50,-99;k10,10,0,0;l0,108,1,0,0;l0,109,1,0,0;l0,99,1,0,0;l0,98,1,0,0;l0,159,99,0,0;");
        worlds(x, 0, 1, 1);
        worlds(x, 1, 1, 0);
        worlds(x, 2, 1, 1);
        worlds(x, 3, 1, 0);
        worlds(x, 4, 1, 0);
        checks.due("drift is asked on the beach alone", x.call("drift", 108, 1, 0, 10, 0), BAD);
    }
}
