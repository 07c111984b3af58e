/** The edges of HOPE, WALK and WALKS (promises 16 to 18). */
final class WalkEdgesTest {
    private static final int BAD = Checks.BAD, NONE = Checks.NONE;
    private static final Checks checks = new Checks("WalkEdgesTest");

    public static void main(String[] args) {
        hopeHours();
        hopeEyes();
        hopeCells();
        hopeIsCut();
        noneLeft();
        leastAndGreatest();
        lowestOfAlike();
        roomForWalks();
        beyondM();
        walksInAnyOrder();
        walksBehindGreaterHopes();
        checks.end();
    }

    private static void due(String call, long got, long want) {
        checks.due(call, got, want);
    }

    /** "ASHORE in these CELLS by then", then too. */
    private static void hopeHours() {
        Face x = Face.galeOf("n1;t0,-1;k0,0,0,10;l0,5,1,0,9;");
        for (int hour = 0; hour <= 12; hour++) {
            due("hope at " + hour, x.call("hope", 0, 0, hour, 0), 1000000L * Math.min(hour, 10));
            due("walk at " + hour, x.call("walk", 1, hour, 0, 1), 1000000L * Math.min(hour, 10));
            due("walks at " + hour, x.call("walks", 1, 1, hour, 0, -1), 1000000L * Math.min(hour, 10));
        }
        Face late = Face.galeOf("n1;t0,-1;k0,0,0,10;l0,5,1,998,998;");
        due("at 998", late.call("hope", 0, 0, 998, 0), 0);
        due("at 999", late.call("hope", 0, 0, 999, 0), 10000000);
        due("at 1000", late.call("hope", 0, 0, 1000, 0), BAD);
    }

    /** A KIND shows to EYES E or better, for each E. */
    private static void hopeEyes() {
        for (int needed = 0; needed <= 9; needed++) {
            Face x = Face.galeOf("n1;t0,-1;k0,0," + needed + ",7;l0,5,1,0,0;");
            for (int eyes = 0; eyes <= 9; eyes++) {
                long due = eyes >= needed ? 7000000 : 0;
                due("hope with eyes " + eyes + " of " + needed, x.call("hope", 0, 0, 999, eyes), due);
                due("walk with eyes " + eyes + " of " + needed, x.call("walk", 1, 999, eyes, 1), due);
                due("walks with eyes " + eyes + " of " + needed, x.call("walks", 1, 1, 999, eyes, -1), due);
            }
        }
    }

    /** CELLS a to b, both too; b below a is BAD. */
    private static void hopeCells() {
        for (int cells : new int[] {1, 2, 8, 16}) {
            Face x = Face.galeOf("n" + cells + ";t0,-1;k0,0,0,1;l0,0,1,0,0;l0," + (10 * cells - 1) + ",1,0,0;");
            for (int a = -1; a <= cells; a += cells + 1) {
                due("beyond", x.call("hope", a, cells - 1, 9, 0), BAD);
                due("beyond", x.call("hope", 0, a, 9, 0), BAD);
            }
            for (int a = 0; a < cells; a++) {
                due("0 to " + a, x.call("hope", 0, a, 9, 0), a == cells - 1 ? 2000000 : 1000000);
                due(a + " to the last", x.call("hope", a, cells - 1, 9, 0), a == 0 ? 2000000 : 1000000);
                due(a + " to one before", x.call("hope", a, a - 1, 9, 0), BAD);
                due("just " + a, x.call("hope", a, a, 9, 0), cells == 1 ? 2000000 : a == 0 || a == cells - 1 ? 1000000 : 0);
            }
        }
    }

    /** Each LOSS is cut by itself, then they come together. */
    private static void hopeIsCut() {
        String three = "n3;t0,-1;w0,99,0;k0,2,0,1;l0,5,1,0,0;";
        due("a third", Face.galeOf(three).call("hope", 0, 0, 9, 0), 333333);
        due("two thirds", Face.galeOf(three).call("hope", 0, 1, 9, 0), 666666);
        due("three thirds", Face.galeOf(three).call("hope", 0, 2, 9, 0), 1000000);
        String twice = three + "l0,5,1,0,0;";
        due("two losses", Face.galeOf(twice).call("hope", 0, 0, 9, 0), 666666);
        due("two losses", Face.galeOf(twice).call("hope", 0, 1, 9, 0), 1333332);
        String seven = "n7;t0,-1;w0,99,0;k0,6,0,999;l0,5,1,0,0;";
        for (int b = 0; b < 7; b++) {
            due(b + 1 + " sevenths of 999", Face.galeOf(seven).call("hope", 0, b, 9, 0), 999000000L * (b + 1) / 7);
        }
    }

    /** A LOSS without LEFT WORLDS adds nothing; with but one, all its WORTH lies there. */
    private static void noneLeft() {
        Face x = Face.galeOf("n3;t0,-1;w0,99,0;k0,2,0,30;k0,0,0,1;l0,5,1,0,0;l1,5,1,0,0;");
        due("all", x.call("hope", 0, 2, 9, 0), 31000000);
        x.call("report", 0, 9, 0, 0, 0);
        due("two left", x.call("hope", 1, 1, 9, 0), 15000000);
        x.call("report", 1, 9, 0, 0, 0);
        due("one left", x.call("hope", 2, 2, 9, 0), 30000000);
        due("one left", x.call("hope", 0, 1, 9, 0), 1000000);
        x.call("report", 2, 9, 0, 0, 0);
        due("none left", x.call("hope", 0, 2, 9, 0), 1000000);
        x.call("report", 0, 9, 0, 1, 0);
        due("none left at all", x.call("hope", 0, 2, 9, 0), 0);
        due("walk the lowest", x.call("walk", 1, 9, 0, 0), 0);
        due("walk for nothing", x.call("walk", 1, 9, 0, 1), 0);
        due("walks for nothing", x.call("walks", 1, 3, 9, 0, -1), 0);
        due("the lowest", x.call("walks", 1, 3, 9, 0, 2), 2);
    }

    /** WORTH 0 and 999, no LOSS and eight. */
    private static void leastAndGreatest() {
        due("no loss", Face.galeOf("k0,0,0,999;").call("hope", 0, 7, 999, 9), 0);
        due("worth 0", Face.galeOf("n1;t0,-1;k0,0,0,0;l0,5,1,0,0;").call("hope", 0, 0, 9, 0), 0);
        due("worth 1", Face.galeOf("n1;t0,-1;k0,0,0,1;l0,5,1,0,0;").call("hope", 0, 0, 9, 0), 1000000);
        due("eight of 999", Face.galeOf("n1;t0,-1;k0,0,0,999;" + "l0,5,1,0,0;".repeat(8)).call("hope", 0, 0, 9, 0), 7992000000L);
        Face all = Face.galeOf("n1;t0,-9;k0,10,0,999;" + "l0,5,9,0,9;".repeat(8));
        due("each of 110", all.call("hope", 0, 0, 10, 0), 7992000000L);
        due("99 of 110", all.call("hope", 0, 0, 9, 0), 8 * (999L * 99 * 1000000 / 110));
    }

    /** The lowest a of the greatest, wherever the others are. */
    private static void lowestOfAlike() {
        for (int low = 0; low < 16; low += 3) {
            for (int high = low; high < 16; high += 4) {
                Face x = Face.galeOf("n16;t0,-1;k0,0,0,5;l0," + (10 * high + 9) + ",1,0,0;l0," + 10 * low + ",1,0,0;");
                for (int n = 1; n <= 16; n++) {
                    boolean both = high - low < n;
                    int begin = Math.max(0, (both ? high : low) - n + 1);
                    due("walk of " + n + " to " + low + ", " + high, x.call("walk", n, 9, 0, 0), begin);
                    due("its hope", x.call("walk", n, 9, 0, 1), both ? 10000000 : 5000000);
                }
                due("walk of 0", x.call("walk", 0, 9, 0, 0), BAD);
                due("walk of 17", x.call("walk", 17, 9, 0, 0), BAD);
            }
        }
    }

    /** m walks of n CELLS have room in N up to n times m, and have none in one less. */
    private static void roomForWalks() {
        for (int cells = 1; cells <= 16; cells++) {
            Face x = Face.galeOf("n" + cells + ";");
            for (int n = 1; n <= cells; n++) {
                for (int m = 1; m <= 3; m++) {
                    boolean room = n * m <= cells;
                    due(m + " of " + n + " in " + cells, x.call("walks", n, m, 0, 0, -1), room ? 0 : NONE);
                    due("the first", x.call("walks", n, m, 0, 0, 0), room ? 0 : NONE);
                    due("the last", x.call("walks", n, m, 0, 0, m - 1), room ? n * (m - 1) : NONE);
                }
            }
        }
    }

    private static void beyondM() {
        Face x = Face.galeOf("n6;t0,-1;k0,0,0,1;l0,55,1,0,0;");
        for (int m = 1; m <= 3; m++) {
            due("the last of " + m, x.call("walks", 2, m, 9, 0, m - 1), 4);
            due("just beyond " + m, x.call("walks", 2, m, 9, 0, m), NONE);
            due("farther beyond " + m, x.call("walks", 2, m, 9, 0, m + 1), NONE);
            due("far beyond " + m, x.call("walks", 2, m, 9, 0, Integer.MAX_VALUE), NONE);
            due("the sum", x.call("walks", 2, m, 9, 0, -1), 1000000);
            due("below the sum", x.call("walks", 2, m, 9, 0, -2), BAD);
            due("no room, below the sum", x.call("walks", 6, 3, 9, 0, -2), BAD);
        }
        due("no walk", x.call("walks", 2, 0, 9, 0, -1), BAD);
        due("no walk, beyond", x.call("walks", 2, 0, 9, 0, 0), BAD);
        due("four walks", x.call("walks", 1, 4, 9, 0, -1), BAD);
        due("four walks, beyond", x.call("walks", 1, 4, 9, 0, 4), BAD);
    }

    /** Whatever walks were asked for before: as the plain reading says, which tries all of them. */
    private static void walksInAnyOrder() {
        String[] texts = {Checks.GALE, "n16;t1,-1;t-2,-1;w0,40,-10;w9,-30,-20;k0,9,0,7;k2,5,3,90;"
            + "l0,80,9,0,9;l1,20,20,2,6;l1,120,30,3,9;l0,3,4,0,4;l1,150,8,1,1;",
            "n3;t0,-1;w0,99,0;k0,2,0,7;l0,5,1,0,0;l0,15,1,0,0;", "n1;t0,-1;k0,0,0,3;l0,5,1,0,0;"};
        for (String text : texts) {
            for (int step : new int[] {1, 31, -1}) {
                Face gale = Face.galeOf(text);
                Face plain = Face.plainOf(text);
                int all = 15 * (int) plain.call("count", 0);
                for (int i = 0; i < all; i++) {
                    // 31 has no divisor in common with 15 times up to 16, so that each comes once
                    int which = Math.floorMod(i * step, all);
                    // little to hope for behind much, and much behind little
                    int hour = i % 3 == 0 ? 2 : 60;
                    int eyes = i % 4 == 0 ? 0 : 9;
                    long[] args = {1 + which / 15, 1 + which / 5 % 3, hour, eyes, which % 5 - 1};
                    due(Face.described("walks", args), gale.call("walks", args), plain.call("walks", args));
                }
            }
        }
    }

    /** What was hoped for at a later HOUR, or on another BEACH, is not in what is asked for then. */
    private static void walksBehindGreaterHopes() {
        Face x = Face.galeOf("n6;t0,-1;k0,0,0,9;l0,55,1,4,4;l0,5,1,0,0;");
        for (int n = 1; n <= 3; n++) {
            for (int m = 1; n * m <= 6 && m <= 3; m++) {
                due("by hour 5", x.call("walks", 1, m, 5, 0, -1), m == 1 ? 9000000 : 18000000);
                due("by hour 1", x.call("walks", n, m, 1, 0, -1), 9000000);
                due("the first", x.call("walks", n, m, 1, 0, 0), 0);
                due("the last", x.call("walks", n, m, 1, 0, m - 1), n * (m - 1));
                due("by hour 0", x.call("walks", n, m, 0, 0, -1), 0);
            }
        }
        x.call("walks", 1, 3, 5, 0, -1);
        x.lay("n6;k0,0,0,9;", 0);
        due("no loss any more", x.call("walks", 2, 3, 5, 0, -1), 0);
        due("the last", x.call("walks", 2, 3, 5, 0, 2), 4);
    }
}
