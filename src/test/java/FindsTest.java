/** Promises 9 to 11: find, from, parted. */
final class FindsTest {
    private static final int BAD = Checks.BAD, FULL = Checks.FULL, NONE = Checks.NONE;
    /** LOSS 0 may be in CELLS 0 and 1, LOSS 1 in 1 and 2, LOSS 2 (another KIND) in 1, all at HOUR 1. */
    private static final String CHAIN = "n4;t0,-1;w0,99,0;k0,1,0,0;k0,0,0,0;l0,5,1,0,0;l0,15,1,0,0;l1,15,1,0,0;";

    private static final Checks checks = new Checks("FindsTest");

    public static void main(String[] args) {
        finding();
        badFinds();
        fromLosses();
        partedWays();
        chainsOfEight();
        tooManyFinds();
        noFinds();
        checks.end();
    }

    private static void finding() {
        GaleBeach x = Checks.laid(CHAIN);
        for (int i = 1; i <= 12; i++) {
            checks.due("find", x.find(0, 3, 999), i);
            checks.due("finds", x.count(3), i);
        }
        checks.due("one too many", x.find(0, 0, 0), FULL);
        checks.due("a bad one too many", x.find(2, 0, 0), BAD);
        checks.due("finds", x.count(3), 12);
    }

    private static void badFinds() {
        GaleBeach x = Checks.laid(CHAIN);
        int[][] bad = {{-1, 0, 0}, {2, 0, 0}, {0, -1, 0}, {0, 4, 0}, {0, 0, -1}, {0, 0, 1000}, {Integer.MAX_VALUE, 0, 0}};
        for (int[] b : bad) {
            checks.due("a bad find", x.find(b[0], b[1], b[2]), BAD);
        }
        checks.due("no finds", x.count(3), 0);
        checks.due("the edges", x.find(1, 3, 999), 1);
        checks.due("the edges", x.find(0, 0, 0), 2);
        checks.due("from -1", x.from(-1), BAD);
        checks.due("from 2", x.from(2), BAD);
        checks.due("from max", x.from(Integer.MAX_VALUE), BAD);
        checks.due("parted -2", x.parted(-2), BAD);
        checks.due("parted 2", x.parted(2), BAD);
        checks.due("parted min", x.parted(Integer.MIN_VALUE), BAD);
    }

    private static void from(String text, int[] find, int bits) {
        GaleBeach x = Checks.laid(text);
        x.find(find[0], find[1], find[2]);
        checks.due("from", x.from(0), bits);
    }

    private static void fromLosses() {
        from(CHAIN, new int[] {0, 0, 999}, 1);
        from(CHAIN, new int[] {0, 1, 999}, 3);
        from(CHAIN, new int[] {0, 2, 999}, 2);
        from(CHAIN, new int[] {0, 3, 999}, 0);
        from(CHAIN, new int[] {1, 1, 999}, 4);
        from(CHAIN, new int[] {1, 2, 999}, 0);
        from(CHAIN, new int[] {0, 1, 1}, 3);
        from(CHAIN, new int[] {0, 1, 0}, 0);
        from(Checks.GALE, new int[] {1, 2, 90}, 20);
        // what REPORTS gainsay is FROM it all the same
        GaleBeach x = Checks.laid(CHAIN);
        x.report(1, 5, 9, 0, false);
        x.find(0, 1, 999);
        checks.due("from in spite of reports", x.from(0), 3);
    }

    private static void parted(int[] cells, int... losses) {
        GaleBeach x = Checks.laid(CHAIN);
        for (int cell : cells) {
            x.find(0, cell, 999);
        }
        checks.due("parted", x.parted(-1), losses.length > 0 ? 1 : NONE);
        for (int i = 0; i < cells.length; i++) {
            checks.due("loss of find " + i, x.parted(i), losses.length > 0 ? losses[i] : NONE);
        }
        checks.due("no such find", x.parted(cells.length), BAD);
        checks.due("no such find", x.parted(-2), BAD);
        checks.due("finds stay", x.count(3), cells.length);
    }

    private static void partedWays() {
        parted(new int[] {0}, 0);
        parted(new int[] {1}, 0);
        parted(new int[] {2}, 1);
        parted(new int[] {3});
        parted(new int[] {1, 1}, 0, 1);
        parted(new int[] {1, 0}, 1, 0);
        parted(new int[] {1, 2}, 0, 1);
        parted(new int[] {0, 2}, 0, 1);
        parted(new int[] {2, 1}, 1, 0);
        parted(new int[] {0, 0});
        parted(new int[] {2, 2});
        parted(new int[] {1, 1, 1});
        parted(new int[] {1, 3});
        GaleBeach x = Checks.laid(CHAIN);
        x.find(0, 1, 999);
        x.find(1, 1, 999);
        x.find(0, 1, 999);
        checks.due("another kind between", x.parted(0), 0);
        checks.due("another kind between", x.parted(1), 2);
        checks.due("another kind between", x.parted(2), 1);
    }

    /** LOSS i may be in CELLS i and i + 1, so that the last FIND can turn all the others round. */
    private static void chainsOfEight() {
        StringBuilder text = new StringBuilder("n16;t0,-1;w0,99,0;k0,1,0,0;");
        for (int i = 0; i < 8; i++) {
            text.append("l0,").append(10 * i + 5).append(",1,0,0;");
        }
        GaleBeach x = Checks.laid(text.toString());
        for (int i = 0; i < 7; i++) {
            x.find(0, i + 1, 999);
        }
        for (int i = 0; i < 7; i++) {
            checks.due("find " + i + " of seven", x.parted(i), i);
        }
        x.keep();
        x.find(0, 0, 999);
        for (int i = 0; i < 7; i++) {
            checks.due("find " + i + " of eight", x.parted(i), i + 1);
        }
        checks.due("find 7 of eight", x.parted(7), 0);
        x.back();
        x.find(0, 8, 999);
        checks.due("find 6 of eight", x.parted(6), 6);
        checks.due("find 7 of eight", x.parted(7), 7);
        x.find(0, 8, 999);
        checks.due("nine", x.parted(-1), NONE);
        checks.due("nine", x.parted(0), NONE);
        checks.due("nine", x.parted(9), BAD);
    }

    private static void tooManyFinds() {
        GaleBeach x = Checks.laid(CHAIN);
        for (int i = 0; i < 12; i++) {
            x.find(0, 1, 999);
        }
        checks.due("twelve", x.parted(-1), NONE);
        checks.due("twelve", x.parted(11), NONE);
        checks.due("from the last", x.from(11), 3);
    }

    private static void noFinds() {
        GaleBeach x = Checks.laid(CHAIN);
        checks.due("no finds", x.parted(-1), 1);
        checks.due("no finds", x.parted(0), BAD);
        checks.due("no finds", x.from(0), BAD);
    }
}
