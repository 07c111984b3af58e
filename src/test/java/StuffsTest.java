/** Promises 26 to 29: show, cost, parting, shown. */
final class StuffsTest {
    private static final int BAD = Checks.BAD, NONE = Checks.NONE;
    private static final Checks checks = new Checks("StuffsTest");

    public static void main(String[] args) {
        showing();
        costing();
        sets();
        alone();
        alike();
        cheapest();
        worst();
        lowest();
        deepest();
        bad();
        checks.end();
    }

    private static void showing() {
        GaleBeach x = new GaleBeach();
        for (int test = 0; test < 6; test++) {
            for (int stuff = 0; stuff < 8; stuff++) {
                checks.due("0 at first", x.show(test, stuff, (test + stuff) % 4), 0);
            }
        }
        for (int test = 0; test < 6; test++) {
            for (int stuff = 0; stuff < 8; stuff++) {
                checks.due("what it showed", x.show(test, stuff, 3), (test + stuff) % 4);
                checks.due("what it showed then", x.show(test, stuff, 3), 3);
            }
        }
        int[][] bad = {{-1, 0, 0}, {6, 0, 0}, {0, -1, 0}, {0, 8, 0}, {0, 0, -1}, {0, 0, 4}, {Integer.MAX_VALUE, 0, 0}, {0, Integer.MIN_VALUE, 0}};
        for (int[] b : bad) {
            checks.due("bad show", x.show(b[0], b[1], b[2]), BAD);
        }
        checks.due("nothing changed", x.show(0, 0, 1), 3);
    }

    private static void costing() {
        GaleBeach x = new GaleBeach();
        for (int test = 0; test < 6; test++) {
            checks.due("1 at first", x.cost(test, 99 - test), 1);
        }
        for (int test = 0; test < 6; test++) {
            checks.due("what it cost", x.cost(test, 1), 99 - test);
        }
        for (int[] b : new int[][] {{-1, 1}, {6, 1}, {0, 0}, {0, 100}, {0, -1}, {Integer.MIN_VALUE, 1}, {0, Integer.MAX_VALUE}}) {
            checks.due("bad cost", x.cost(b[0], b[1]), BAD);
        }
        checks.due("nothing changed", x.cost(0, 5), 1);
    }

    private static void sets() {
        GaleBeach x = new GaleBeach();
        checks.due("all show 0", x.shown(255, 0, 0), 255);
        checks.due("some of them", x.shown(0xa5, 5, 0), 0xa5);
        checks.due("none shows 1", x.shown(255, 0, 1), 0);
        x.show(2, 0, 1);
        x.show(2, 3, 1);
        x.show(2, 7, 3);
        checks.due("0", x.shown(255, 2, 0), 0x76);
        checks.due("1", x.shown(255, 2, 1), 0x09);
        checks.due("2", x.shown(255, 2, 2), 0);
        checks.due("3", x.shown(255, 2, 3), 0x80);
        checks.due("of a set", x.shown(0x0c, 2, 1), 0x08);
        checks.due("of a set without", x.shown(0x04, 2, 1), 0);
        checks.due("another test", x.shown(255, 1, 0), 255);
        x.show(2, 3, 2);
        checks.due("1 no more", x.shown(255, 2, 1), 0x01);
        checks.due("now 2", x.shown(255, 2, 2), 0x08);
    }

    private static void parted(GaleBeach x, int set, int cost, int first) {
        checks.due("cost of parting " + set, x.parting(set, 0), cost);
        checks.due("first test of " + set, x.parting(set, 1), first);
    }

    private static void alone() {
        GaleBeach x = new GaleBeach();
        for (int stuff = 0; stuff < 8; stuff++) {
            parted(x, 1 << stuff, 0, NONE);
        }
    }

    private static void alike() {
        GaleBeach x = new GaleBeach();
        parted(x, 3, NONE, NONE);
        parted(x, 255, NONE, NONE);
        x.show(5, 1, 2);
        parted(x, 3, 1, 5);
        parted(x, 7, NONE, NONE);
        parted(x, 5, NONE, NONE);
        parted(x, 6, 1, 5);
        x.show(5, 2, 1);
        parted(x, 7, 1, 5);
        x.show(5, 2, 2);
        parted(x, 7, NONE, NONE);
    }

    /** TEST 0 tells all of four, dearly; TESTS 1 and 2 tell halves. */
    private static void cheapest() {
        GaleBeach x = new GaleBeach();
        for (int stuff = 0; stuff < 4; stuff++) {
            x.show(0, stuff, stuff);
            x.show(1, stuff, stuff / 2);
            x.show(2, stuff, stuff % 2);
        }
        x.cost(0, 10);
        x.cost(1, 4);
        x.cost(2, 5);
        parted(x, 15, 9, 1);
        x.cost(0, 9);
        parted(x, 15, 9, 0);
        x.cost(0, 8);
        parted(x, 15, 8, 0);
        parted(x, 3, 5, 2);
        parted(x, 5, 4, 1);
        parted(x, 9, 4, 1);
        parted(x, 7, 8, 0);
        x.cost(0, 99);
        parted(x, 7, 9, 1);
        parted(x, 240, NONE, NONE);
    }

    /** The cost is the worst branch's, not the sum of the branches nor of the TESTS used. */
    private static void worst() {
        GaleBeach x = new GaleBeach();
        x.show(0, 2, 1);
        x.show(0, 3, 1);
        x.show(1, 1, 1);
        x.show(2, 3, 1);
        x.cost(0, 10);
        x.cost(1, 7);
        x.cost(2, 3);
        parted(x, 15, 17, 0);
        parted(x, 12, 3, 2);
        parted(x, 3, 7, 1);
        x.cost(2, 8);
        parted(x, 15, 18, 0);
    }

    private static void lowest() {
        GaleBeach x = new GaleBeach();
        for (int test = 1; test < 6; test++) {
            x.show(test, 0, 3);
        }
        parted(x, 3, 1, 1);
        x.cost(1, 2);
        parted(x, 3, 1, 2);
        x.cost(2, 99);
        x.cost(3, 99);
        x.cost(4, 99);
        x.cost(5, 99);
        parted(x, 3, 2, 1);
    }

    /** Each TEST tells one STUFF from all others, so that six of them stand one behind another. */
    private static void deepest() {
        GaleBeach x = new GaleBeach();
        for (int test = 0; test < 6; test++) {
            x.show(test, test, 1);
            x.cost(test, 99);
        }
        parted(x, 0x7f, 594, 0);
        parted(x, 0xbf, 594, 0);
        parted(x, 0xff, NONE, NONE);
        parted(x, 0x3f, 495, 0);
        parted(x, 0x3e, 396, 1);
    }

    private static void bad() {
        GaleBeach x = new GaleBeach();
        for (int[] b : new int[][] {{0, 0}, {256, 0}, {-1, 0}, {1, -1}, {1, 2}, {3, 2}, {Integer.MIN_VALUE, 0}, {Integer.MAX_VALUE, 0}}) {
            checks.due("bad parting", x.parting(b[0], b[1]), BAD);
        }
        for (int[] b : new int[][] {{0, 0, 0}, {256, 0, 0}, {-1, 0, 0}, {1, -1, 0}, {1, 6, 0}, {1, 0, -1}, {1, 0, 4}, {1, Integer.MAX_VALUE, 0}}) {
            checks.due("bad shown", x.shown(b[0], b[1], b[2]), BAD);
        }
    }
}
