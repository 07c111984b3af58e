/** The edges of STUFFS and TESTS, of what is KEPT, and of counts (promises 26 to 32). */
final class StuffEdgesTest {
    private static final int BAD = Checks.BAD, NO = Checks.NO, FULL = Checks.FULL, NONE = Checks.NONE;
    private static final Checks checks = new Checks("StuffEdgesTest");

    public static void main(String[] args) {
        showEnds();
        costEnds();
        twoStuffs();
        allEight();
        twoAlike();
        worstOfAll();
        lowestOfAlike();
        shownEnds();
        keepEnds();
        keptFullAndEmpty();
        keptBehindLay();
        countEnds();
        lastCall();
        checks.end();
    }

    private static void due(String call, long got, long want) {
        checks.due(call, got, want);
    }

    /** The first and last TEST and STUFF, each value; all else stays. */
    private static void showEnds() {
        for (int test = 0; test <= 5; test += 5) {
            for (int stuff = 0; stuff <= 7; stuff += 7) {
                Face x = Face.gale();
                long was = 0;
                for (int v : new int[] {0, 3, 1, 2, 2, 0}) {
                    due("what it showed", x.call("show", test, stuff, v), was);
                    was = v;
                    for (int bad : new int[] {-1, 4}) {
                        due("a bad value", x.call("show", test, stuff, bad), BAD);
                    }
                    for (int other = 0; other < 6; other++) {
                        due("shown", x.call("shown", 255, other, v), other == test ? v == 0 ? 255 : 1 << stuff : v == 0 ? 255 : 0);
                    }
                }
            }
        }
    }

    private static void costEnds() {
        for (int test = 0; test <= 5; test += 5) {
            Face x = Face.gale();
            x.call("show", test, 0, 1);
            due("1 at first", x.call("parting", 3, 0), 1);
            due("1 at first", x.call("cost", test, 99), 1);
            due("99", x.call("parting", 3, 0), 99);
            due("100", x.call("cost", test, 100), BAD);
            due("0", x.call("cost", test, 0), BAD);
            due("99 still", x.call("parting", 3, 0), 99);
            due("99 still", x.call("cost", test, 1), 99);
            due("1", x.call("parting", 3, 0), 1);
        }
    }

    /** Sets of two: the least cost of a TEST that tells them apart, with none, one and all of them. */
    private static void twoStuffs() {
        for (int tests = 0; tests < 64; tests++) {
            Face x = Face.gale();
            int best = -1;
            for (int test = 0; test < 6; test++) {
                x.call("cost", test, 9 - test / 2);
                if ((tests >> test & 1) == 1) {
                    x.call("show", test, 7, 3);
                    best = best < 0 || test / 2 > best / 2 ? test : best;
                }
            }
            due("cost by tests " + tests, x.call("parting", 0x81, 0), best < 0 ? NONE : 9 - best / 2);
            due("first by tests " + tests, x.call("parting", 0x81, 1), best < 0 ? NONE : best);
        }
    }

    /** Two TESTS of four and two values part all eight; the least set and the greatest. */
    private static void allEight() {
        Face x = Face.gale();
        for (int stuff = 0; stuff < 8; stuff++) {
            x.call("show", 4, stuff, stuff % 4);
            x.call("show", 5, stuff, stuff / 4);
        }
        due("all", x.call("parting", 255, 0), 2);
        due("all, first", x.call("parting", 255, 1), 4);
        due("four", x.call("parting", 0x0f, 0), 1);
        due("five", x.call("parting", 0x1f, 0), 2);
        due("0 and 4", x.call("parting", 0x11, 0), 1);
        due("0 and 4, first", x.call("parting", 0x11, 1), 5);
        for (int set = 1; set <= 255; set <<= 1) {
            due("one alone", x.call("parting", set, 0), 0);
            due("one alone, first", x.call("parting", set, 1), NONE);
            due("none of one", x.call("parting", set, 2), BAD);
        }
        due("no stuff", x.call("parting", 0, 0), BAD);
        due("no stuff", x.call("parting", 0, 1), BAD);
        due("a ninth", x.call("parting", 256, 0), BAD);
        due("a ninth", x.call("parting", 256, 1), BAD);
    }

    /** Two that show alike in all: none for each set with both, a way for each set without one of them. */
    private static void twoAlike() {
        Face x = Face.gale();
        for (int stuff = 0; stuff < 8; stuff++) {
            x.call("show", 0, stuff, stuff % 4);
            x.call("show", 1, stuff, stuff / 4);
        }
        x.call("show", 0, 7, 2);
        for (int set = 1; set <= 255; set += 1 + set % 2) {
            boolean both = (set & 0xc0) == 0xc0;
            long cost = x.call("parting", set, 0);
            checks.holds("set " + set + " is parted: " + cost, both ? cost == NONE : cost >= 0);
            checks.holds("the first test of " + set, (x.call("parting", set, 1) == NONE) == (both || cost == 0));
        }
        x.call("show", 5, 7, 1);
        due("one more test tells them", x.call("parting", 255, 0), 3);
        due("of the two", x.call("parting", 0xc0, 1), 5);
    }

    /** The greatest cost: six TESTS of 99, each of which tells but one STUFF; and six of seven STUFFS. */
    private static void worstOfAll() {
        Face x = Face.gale();
        for (int test = 0; test < 6; test++) {
            x.call("show", test, test, 1 + test % 3);
            x.call("cost", test, 99);
        }
        due("seven", x.call("parting", 0x7f, 0), 594);
        due("eight", x.call("parting", 0xff, 0), NONE);
        due("seven others", x.call("parting", 0xfe, 0), NONE);
        due("six", x.call("parting", 0x3f, 0), 495);
        for (int test = 0; test < 6; test++) {
            x.call("cost", test, 1);
        }
        due("seven for 1 each", x.call("parting", 0x7f, 0), 6);
    }

    /** Of TESTS that cost alike at worst the lowest comes first, also if another goes on more cheaply elsewhere. */
    private static void lowestOfAlike() {
        for (int lowest = 0; lowest < 6; lowest++) {
            Face x = Face.gale();
            for (int test = lowest; test < 6; test++) {
                x.call("show", test, 0, 1);
                x.call("show", test, 1, 2);
            }
            due("three by test " + lowest, x.call("parting", 7, 1), lowest);
            due("cost", x.call("parting", 7, 0), 1);
        }
    }

    private static void shownEnds() {
        Face x = Face.gale();
        x.call("show", 0, 0, 3);
        x.call("show", 5, 7, 3);
        for (int set : new int[] {1, 2, 127, 128, 254, 255}) {
            due("test 0 shows 3", x.call("shown", set, 0, 3), set & 1);
            due("test 0 shows 0", x.call("shown", set, 0, 0), set & 254);
            due("test 5 shows 3", x.call("shown", set, 5, 3), set & 128);
            due("test 5 shows 0", x.call("shown", set, 5, 0), set & 127);
            due("test 3 shows 3", x.call("shown", set, 3, 3), 0);
        }
        long[][] bad = {{0, 0, 0}, {256, 0, 0}, {255, -1, 0}, {255, 6, 0}, {255, 0, -1}, {255, 0, 4}, {-1, 0, 0}};
        for (long[] b : bad) {
            due(Face.described("shown", b), x.call("shown", b), BAD);
        }
    }

    /** 2 at most; with none NO; what comes back is what was KEPT last. */
    private static void keepEnds() {
        Face x = Face.gale();
        for (int round = 0; round < 3; round++) {
            due("nothing kept", x.call("back"), NO);
            due("still nothing", x.call("back"), NO);
            due("keep", x.call("keep"), 1);
            x.call("number", 5);
            due("keep", x.call("keep"), 2);
            x.call("number", 9);
            for (int i = 0; i < 2; i++) {
                due("a third", x.call("keep"), FULL);
                due("two", x.call("count", 8), 2);
                due("both numbers", x.call("count", 5), 2);
            }
            due("back", x.call("back"), 1);
            due("as kept last", x.call("fell", 0), 5);
            due("room again", x.call("keep"), 2);
            due("back", x.call("back"), 1);
            due("back", x.call("back"), 0);
            due("as kept first", x.call("fell", 0), NO);
        }
    }

    /** Nothing KEPT while all is full, and all KEPT while nothing is there. */
    private static void keptFullAndEmpty() {
        Face x = Face.galeOf("n2;t0,-1;k0,0,0,0;l0,5,1,0,0;");
        x.call("keep");
        for (int i = 0; i < 24; i++) {
            x.call("report", 0, i, 0, 0, i % 2);
            x.call("find", 0, i % 2, i);
            x.call("number", i + 1);
        }
        x.call("keep");
        due("full", x.call("find", 0, 0, 0), FULL);
        due("full", x.call("report", 0, 0, 0, 0, 0), FULL);
        due("full", x.call("number", 99), FULL);
        due("back to full", x.call("back"), 1);
        due("full still", x.call("find", 0, 0, 0), FULL);
        due("full still", x.call("report", 0, 0, 0, 0, 0), FULL);
        due("full still", x.call("number", 99), FULL);
        due("from the last", x.call("from", 11), 0);
        due("from the one before", x.call("from", 10), 1);
        due("false reports", x.call("missed", 1), 0x555554);
        due("back to nothing", x.call("back"), 0);
        for (int what = 3; what <= 5; what++) {
            due("nothing", x.call("count", what), 0);
        }
        due("no finds", x.call("from", 0), BAD);
        due("no reports", x.call("missed", 1), 0);
        due("no numbers", x.call("most", 1, 2), NO);
        due("not found yet", x.call("number", 1), 1);
        due("room", x.call("find", 0, 0, 0), 1);
        due("from what is new", x.call("from", 0), 0);
        due("room", x.call("report", 0, 999, 0, 0, 0), 1);
        due("gainsaid by what is new", x.call("left", 0), 0);
    }

    /** A BEACH laid: nothing is KEPT. A LAW, a FAULT, a wipe, a fault asked for: it is. */
    private static void keptBehindLay() {
        for (int kept = 1; kept <= 2; kept++) {
            Face x = Face.galeOf("k0,0,0,0;");
            for (int i = 0; i < kept; i++) {
                x.call("number", i + 1);
                x.call("keep");
            }
            x.put("x");
            due("a fault", x.call("lay", 0), NO);
            due("a fault as law", x.call("lay", 1), NO);
            x.call("fault", 0);
            x.put(":F1,1;");
            due("a law", x.call("lay", 1), 1);
            due("kept", x.call("count", 8), kept);
            due("numbers", x.call("count", 5), kept);
            x.put("");
            due("a beach", x.call("lay", 0), 8);
            due("nothing kept", x.call("count", 8), 0);
            due("no numbers", x.call("count", 5), 0);
            due("nothing to go back to", x.call("back"), NO);
            due("room for one", x.call("keep"), 1);
            due("room for two", x.call("keep"), 2);
            due("no room for three", x.call("keep"), FULL);
        }
    }

    /** Each count at its least and at its greatest. */
    private static void countEnds() {
        Face least = Face.galeOf("n1;");
        least.put("");
        for (int what = 0; what <= 8; what++) {
            due("least " + what, least.call("count", what), what == 0 ? 1 : 0);
        }
        Face most = Face.galeOf("n16;" + "k0,0,0,0;".repeat(6) + "l0,5,1,0,0;".repeat(8));
        most.lay(":F0,0;".repeat(10), 1);
        for (int i = 0; i < 24; i++) {
            most.call("find", 0, 0, 0);
            most.call("report", 0, 0, 0, 0, 1);
            most.call("number", 1 + i);
        }
        most.call("keep");
        most.call("keep");
        most.put("n".repeat(400));
        int[] due = {16, 6, 8, 12, 24, 20, 10, 400, 2};
        for (int what = 0; what <= 8; what++) {
            due("greatest " + what, most.call("count", what), due[what]);
        }
        due("count -1", most.call("count", -1), BAD);
        due("count 9", most.call("count", 9), BAD);
    }

    /** An object answers 512 calls: the last one as the first. */
    private static void lastCall() {
        Face x = Face.gale();
        for (int i = 1; i <= 511; i++) {
            due("show", x.call("show", i % 6, i / 6 % 8, i % 4) >= 0 ? 1 : 0, 1);
        }
        due("the last call", x.call("count", 0), 8);
    }
}
