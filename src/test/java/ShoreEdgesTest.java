/** The edges of FINDS and REPORTS (promises 9 to 15). */
final class ShoreEdgesTest {
    private static final int BAD = Checks.BAD, FULL = Checks.FULL, NONE = Checks.NONE;
    /** KIND 0 comes ashore in CELL 1 at HOUR 5, KIND 1 in CELL 2 at HOUR 999. */
    private static final String TEXT = "n4;t0,-1;k0,0,3,5;k0,0,9,7;l0,15,1,4,4;l1,25,1,998,998;";

    private static final Checks checks = new Checks("ShoreEdgesTest");

    public static void main(String[] args) {
        howManyFinds();
        fromHours();
        fromKindsAndCells();
        partedByHowMany();
        partedFirstWay();
        howManyReports();
        thereHours();
        notHours();
        eyesGoodEnough();
        thereAheadOfNot();
        missedByOthers();
        missedHours();
        leftHours();
        leftEyes();
        leftBehindOthers();
        checks.end();
    }

    private static void due(String call, long got, long want) {
        checks.due(call, got, want);
    }

    private static void howManyFinds() {
        Face x = Face.galeOf(TEXT);
        due("no find 0", x.call("from", 0), BAD);
        for (int i = 0; i < 12; i++) {
            due("find", x.call("find", i % 2, 3, i == 0 ? 0 : 999), i + 1);
            due("from the last", x.call("from", i), 0);
            due("no such find yet", x.call("from", i + 1), BAD);
            due("nor parted", x.call("parted", i + 1), BAD);
        }
        for (int i = 0; i < 3; i++) {
            due("the thirteenth", x.call("find", 0, 1, 999), FULL);
            due("twelve", x.call("count", 3), 12);
        }
        due("no thirteenth", x.call("from", 12), BAD);
        due("no thirteenth", x.call("parted", 12), BAD);
        due("the twelfth", x.call("from", 11), 0);
    }

    /** "ASHORE in that CELL by that HOUR", that one too. */
    private static void fromHours() {
        Face x = Face.galeOf(TEXT);
        int[][] finds = {{0, 1, 0}, {0, 1, 4}, {0, 1, 5}, {0, 1, 6}, {0, 1, 999}, {1, 2, 998}, {1, 2, 999}};
        int[] bits = {0, 0, 1, 1, 1, 0, 2};
        for (int i = 0; i < finds.length; i++) {
            x.call("find", finds[i][0], finds[i][1], finds[i][2]);
            due("from a find at hour " + finds[i][2], x.call("from", i), bits[i]);
        }
        // at HOUR 1 at the earliest
        Face early = Face.galeOf("n1;t0,-1;k0,0,0,0;l0,5,1,0,0;");
        early.call("find", 0, 0, 0);
        early.call("find", 0, 0, 1);
        due("at 0", early.call("from", 0), 0);
        due("at 1", early.call("from", 1), 1);
        // of ten WORLDS the earliest is enough
        Face some = Face.galeOf("n1;t0,-1;k0,0,0,0;l0,5,1,0,9;");
        some.call("find", 0, 0, 1);
        due("some of whose worlds", some.call("from", 0), 1);
    }

    private static void fromKindsAndCells() {
        StringBuilder text = new StringBuilder("n16;t0,-1;k0,0,0,0;k0,0,0,0;");
        for (int loss = 0; loss < 8; loss++) {
            text.append('l').append(loss % 2).append(',').append(loss < 4 ? 50 : 59).append(",1,0,0;");
        }
        Face x = Face.galeOf(text.toString());
        int[] cells = {4, 5, 6};
        for (int i = 0; i < 6; i++) {
            x.call("find", i % 2, cells[i / 2], 999);
            due("kind " + i % 2 + " in cell " + cells[i / 2], x.call("from", i), i / 2 != 1 ? 0 : i % 2 == 0 ? 0x55 : 0xaa);
        }
    }

    /** n LOSSES alike: as many FINDS as that are parted, one more is not; none are parted, too. */
    private static void partedByHowMany() {
        for (int losses = 0; losses <= 8; losses++) {
            Face x = Face.galeOf("n1;t0,-1;k0,0,0,0;" + "l0,5,1,0,0;".repeat(losses));
            due("no finds", x.call("parted", -1), 1);
            for (int finds = 1; finds <= 12; finds++) {
                x.call("find", 0, 0, 9);
                due(finds + " finds of " + losses, x.call("parted", -1), finds <= losses ? 1 : NONE);
                due("the first", x.call("parted", 0), finds <= losses ? 0 : NONE);
                due("the last", x.call("parted", finds - 1), finds <= losses ? finds - 1 : NONE);
                due("one more", x.call("parted", finds), BAD);
                due("-2", x.call("parted", -2), BAD);
            }
        }
    }

    /** By FINDS, the lower LOSS first, where the last FIND leaves but one way; and where no LOSS fits. */
    private static void partedFirstWay() {
        String text = "n3;t0,-1;w0,99,0;k0,1,0,0;l0,5,1,0,0;l0,5,1,0,0;l0,15,1,0,0;";
        // CELL 0: LOSSES 0, 1; CELL 1: 0, 1, 2; CELL 2: 2
        int[][] cells = {{1, 1, 1}, {1, 0, 0}, {1, 2, 1}, {0, 1, 2}, {1, 1, 0}, {2, 1, 1}, {0, 0, 1}, {0, 0, 0}, {2, 2, 0}, {1, 1, 2}};
        int[][] ways = {{0, 1, 2}, {2, 0, 1}, {0, 2, 1}, {0, 1, 2}, {0, 2, 1}, {2, 0, 1}, {0, 1, 2}, {}, {}, {0, 1, 2}};
        for (int i = 0; i < cells.length; i++) {
            Face x = Face.galeOf(text);
            for (int cell : cells[i]) {
                x.call("find", 0, cell, 9);
            }
            due("way " + i, x.call("parted", -1), ways[i].length == 0 ? NONE : 1);
            for (int find = 0; find < 3; find++) {
                due("way " + i + ", find " + find, x.call("parted", find), ways[i].length == 0 ? NONE : ways[i][find]);
            }
            x.call("find", 0, 0, 0);
            due("a find of no loss", x.call("parted", -1), NONE);
            due("a find of no loss", x.call("parted", 3), NONE);
            due("finds stay", x.call("count", 3), 4);
        }
    }

    private static void howManyReports() {
        Face x = Face.galeOf(TEXT);
        for (int i = 0; i < 24; i++) {
            due("report", x.call("report", 3, i == 0 ? 999 : i, i % 10, i % 2, 0), i + 1);
        }
        for (int saw = 0; saw < 2; saw++) {
            due("the twenty-fifth", x.call("report", 3, 1, 9, 0, saw), FULL);
            due("twenty-four", x.call("count", 4), 24);
        }
        due("none was seen", x.call("missed", 0), 0);
        due("none was seen", x.call("missed", 1), 0);
        due("nor is it there", x.call("there", 0, 3, 999), 0);
        // the last of 24 is looked at, and shows as the highest bit
        Face y = Face.galeOf(TEXT);
        y.call("report", 3, 7, 0, 0, 1);
        for (int i = 1; i < 23; i++) {
            y.call("report", 0, 7, 0, 0, 0);
        }
        y.call("report", 3, 7, 9, 0, 0);
        due("the bit of the last", y.call("missed", 1), 1 << 23);
        due("and of none else", y.call("missed", 0), 0);
    }

    /** THERE: "saw it there by then", that HOUR too; whatever the EYES. */
    private static void thereHours() {
        for (int hour : new int[] {0, 1, 500, 998, 999}) {
            for (int eyes = 0; eyes <= 9; eyes += 9) {
                Face x = Face.galeOf(TEXT);
                x.call("report", 1, hour, eyes, 1, 1);
                for (int then = Math.max(0, hour - 1); then <= Math.min(999, hour + 1); then++) {
                    due("seen at " + hour + ", then " + then, x.call("there", 1, 1, then), then >= hour ? 1 : 0);
                    due("another cell", x.call("there", 1, 2, then), 0);
                    due("another cell", x.call("there", 1, 0, then), 0);
                    due("another kind", x.call("there", 0, 1, then), 0);
                }
                due("at the end", x.call("there", 1, 1, 999), 1);
            }
        }
    }

    /** NOT: "saw none there then or later", then too. */
    private static void notHours() {
        for (int hour : new int[] {0, 1, 500, 998, 999}) {
            Face x = Face.galeOf(TEXT);
            x.call("report", 1, hour, 3, 0, 0);
            for (int then = Math.max(0, hour - 1); then <= Math.min(999, hour + 1); then++) {
                due("none at " + hour + ", then " + then, x.call("there", 0, 1, then), then <= hour ? 2 : 0);
                due("another cell", x.call("there", 0, 2, then), 0);
                due("another kind", x.call("there", 1, 1, then), 0);
            }
            due("at first", x.call("there", 0, 1, 0), 2);
        }
    }

    /** EYES E or better, for each E. */
    private static void eyesGoodEnough() {
        for (int needed = 0; needed <= 9; needed++) {
            String text = "n1;t0,-1;k0,0," + needed + ",1;l0,5,1,0,0;";
            for (int eyes = 0; eyes <= 9; eyes++) {
                boolean good = eyes >= needed;
                Face x = Face.galeOf(text);
                x.call("report", 0, 9, eyes, 0, 0);
                String who = "eyes " + eyes + " of " + needed;
                due("not: " + who, x.call("there", 0, 0, 9), good ? 2 : 0);
                due("left: " + who, x.call("left", 0), good ? 0 : 1);
                due("none missed: " + who, x.call("missed", 0), 0);
                x.call("report", 0, 9, 0, 0, 1);
                due("missed: " + who, x.call("missed", 0), good ? 0 : 1);
                due("false: " + who, x.call("missed", 1), good ? 1 : 0);
                due("there: " + who, x.call("there", 0, 0, 9), 1);
            }
        }
    }

    /** THERE stands ahead of NOT, and between the two it MAY be. */
    private static void thereAheadOfNot() {
        for (int seenFirst = 0; seenFirst < 2; seenFirst++) {
            Face x = Face.galeOf(TEXT);
            for (int i = 0; i < 2; i++) {
                if (i == seenFirst) {
                    x.call("report", 1, 7, 9, 0, 0);
                } else {
                    x.call("report", 1, 10, 0, 0, 1);
                }
            }
            int[] due = {2, 2, 0, 0, 1, 1};
            for (int hour = 6; hour <= 11; hour++) {
                due("hour " + hour, x.call("there", 0, 1, hour), due[hour - 6]);
            }
            x.call("report", 1, 10, 9, 0, 0);
            due("seen and not at one hour", x.call("there", 0, 1, 10), 1);
            due("before", x.call("there", 0, 1, 9), 2);
            x.call("report", 1, 999, 9, 0, 0);
            due("seen is seen", x.call("there", 0, 1, 999), 1);
            due("seen is seen", x.call("there", 0, 1, 11), 1);
        }
    }

    /** A REPORT that saw is neither MISSED nor FALSE; one that saw none needs another that saw. */
    private static void missedByOthers() {
        Face x = Face.galeOf(TEXT);
        x.call("report", 1, 5, 9, 0, 1);
        x.call("report", 1, 5, 0, 0, 1);
        due("who saw", x.call("missed", 0), 0);
        due("who saw", x.call("missed", 1), 0);
        Face y = Face.galeOf(TEXT);
        y.call("report", 1, 5, 9, 0, 0);
        y.call("report", 1, 5, 0, 0, 0);
        due("none saw", y.call("missed", 0), 0);
        due("none saw", y.call("missed", 1), 0);
        y.call("report", 2, 5, 9, 0, 1);
        y.call("report", 1, 5, 9, 1, 1);
        due("elsewhere, or another kind", y.call("missed", 0), 0);
        due("elsewhere, or another kind", y.call("missed", 1), 0);
        y.call("report", 1, 5, 9, 0, 1);
        due("missed", y.call("missed", 0), 2);
        due("false", y.call("missed", 1), 1);
        due("bad", y.call("missed", -1), BAD);
        due("bad", y.call("missed", 2), BAD);
    }

    /** THERE at that HOUR: seen then or before, not behind it; in whatever order they were told. */
    private static void missedHours() {
        for (int seenFirst = 0; seenFirst < 2; seenFirst++) {
            for (int hour = 4; hour <= 6; hour++) {
                Face x = Face.galeOf(TEXT);
                if (seenFirst == 1) {
                    x.call("report", 1, 5, 0, 0, 1);
                }
                x.call("report", 1, hour, 2, 0, 0);
                x.call("report", 1, hour, 3, 0, 0);
                if (seenFirst == 0) {
                    x.call("report", 1, 5, 0, 0, 1);
                }
                int missed = 1 << seenFirst;
                due("missed at " + hour, x.call("missed", 0), hour < 5 ? 0 : missed);
                due("false at " + hour, x.call("missed", 1), hour < 5 ? 0 : 2 * missed);
            }
        }
    }

    /** Gainsaid: ASHORE there by the HOUR of the REPORT, that one too. */
    private static void leftHours() {
        String text = "n2;t0,-1;k0,0,0,0;l0,15,1,0,9;";
        for (int hour = 0; hour <= 12; hour++) {
            Face x = Face.galeOf(text);
            x.call("report", 1, hour, 0, 0, 0);
            due("left behind a report at " + hour, x.call("left", 0), 10 - Math.min(hour, 10));
            Face other = Face.galeOf(text);
            other.call("report", 0, hour, 0, 0, 0);
            due("in another cell", other.call("left", 0), 10);
            other.call("report", 1, hour, 9, 0, 1);
            due("that saw", other.call("left", 0), 10);
        }
        Face late = Face.galeOf(TEXT);
        late.call("report", 2, 998, 9, 1, 0);
        due("at 998", late.call("left", 1), 1);
        late.call("report", 2, 999, 8, 1, 0);
        due("eyes 8", late.call("left", 1), 1);
        late.call("report", 2, 999, 9, 0, 0);
        due("another kind", late.call("left", 1), 1);
        late.call("report", 2, 999, 9, 1, 0);
        due("at 999", late.call("left", 1), 0);
    }

    /** WORLDS that are GONE are never gainsaid. */
    private static void leftEyes() {
        Face x = Face.galeOf("n1;t0,-1;w0,99,0;k0,1,4,0;l0,5,1,0,9;");
        due("at first", x.call("left", 0), 20);
        x.call("report", 0, 999, 3, 0, 0);
        due("eyes 3", x.call("left", 0), 20);
        x.call("report", 0, 999, 4, 0, 0);
        due("eyes 4", x.call("left", 0), 10);
    }

    /** What REPORTS gainsaid is LEFT again when they are gone, by back or by lay, for the first KIND and the last. */
    private static void leftBehindOthers() {
        String text = "n2;t0,-1;" + "k0,0,0,1;".repeat(6) + "l0,5,1,0,0;l5,15,1,0,0;";
        Face x = Face.galeOf(text);
        x.call("keep");
        for (int round = 0; round < 2; round++) {
            x.call("report", 0, 9, 0, 0, 0);
            x.call("report", 1, 9, 0, 5, 0);
            due("gainsaid", x.call("left", 0), 0);
            due("gainsaid", x.call("left", 1), 0);
            due("no hope", x.call("hope", 0, 1, 999, 9), 0);
            if (round == 0) {
                x.call("back");
            } else {
                x.lay(text, 0);
            }
            due("left again", x.call("left", 0), 1);
            due("left again", x.call("left", 1), 1);
            due("hope again", x.call("hope", 0, 1, 999, 9), 2000000);
        }
    }
}
