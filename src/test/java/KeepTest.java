/** Promises 30 to 32: keep, back, count. */
final class KeepTest {
    private static final int BAD = Checks.BAD, NO = Checks.NO, FULL = Checks.FULL;
    private static final String TEXT = "n4;t0,-1;k0,0,3,5;k0,0,0,7;l0,15,1,0,4;l1,25,1,0,4;";
    private static final Checks checks = new Checks("KeepTest");

    public static void main(String[] args) {
        keeping();
        keptIsApart();
        whatIsNotKept();
        fullOnes();
        counting();
        checks.end();
    }

    private static void keeping() {
        GaleBeach x = Checks.laid(TEXT);
        checks.due("nothing kept", x.back(), NO);
        checks.due("keep", x.keep(), 1);
        x.number(5);
        checks.due("keep", x.keep(), 2);
        checks.due("keep a third", x.keep(), FULL);
        x.number(6);
        checks.due("numbers", x.count(5), 2);
        checks.due("kept", x.count(8), 2);
        checks.due("back", x.back(), 1);
        checks.due("as kept last", x.count(5), 1);
        x.number(7);
        checks.due("keep again", x.keep(), 2);
        checks.due("back", x.back(), 1);
        checks.due("as kept last", x.fell(0), 7);
        checks.due("back", x.back(), 0);
        checks.due("as kept first", x.count(5), 0);
        checks.due("back", x.back(), NO);
        checks.due("kept", x.count(8), 0);
    }

    /** What comes behind a keep, in the same rows, does not reach what is KEPT. */
    private static void keptIsApart() {
        GaleBeach x = Checks.laid(TEXT);
        x.find(0, 1, 999);
        x.report(1, 3, 3, 0, false);
        x.number(50);
        x.keep();
        x.keep();
        x.back();
        x.find(1, 2, 999);
        x.report(2, 999, 0, 1, false);
        x.report(1, 999, 0, 0, true);
        x.number(70);
        checks.due("left", x.left(1), 0);
        checks.due("back", x.back(), 0);
        checks.due("finds", x.count(3), 1);
        checks.due("reports", x.count(4), 1);
        checks.due("numbers", x.count(5), 1);
        checks.due("from", x.from(0), 1);
        checks.due("from another", x.from(1), BAD);
        checks.due("left", x.left(0), 2);
        checks.due("left", x.left(1), 5);
        checks.due("greatest", x.fell(0), 50);
        checks.due("not found yet", x.number(70), 2);
        checks.due("not there", x.there(0, 1, 999), 0);
        // rows that lost something are written over from where they end
        checks.due("find", x.find(0, 0, 5), 2);
        checks.due("from it", x.from(1), 0);
    }

    private static void whatIsNotKept() {
        GaleBeach x = Checks.laid(TEXT, ":C1,1;");
        x.keep();
        x.show(1, 1, 2);
        x.cost(1, 9);
        Checks.put(x, ":F2,2;:O3,3;");
        x.lay(true);
        x.back();
        checks.due("rules stay", x.count(6), 2);
        checks.due("the text stays", x.count(7), 12);
        checks.due("tests stay", x.show(1, 1, 0), 2);
        checks.due("costs stay", x.cost(1, 1), 9);
        checks.due("cells stay", x.count(0), 4);
    }

    private static void fullOnes() {
        GaleBeach x = Checks.laid(TEXT);
        for (int i = 0; i < 24; i++) {
            x.find(i % 2, i % 4, 30 + i);
            x.report(i % 4, 40 + i, i % 10, i % 2, i % 3 == 0);
            x.number(i + 1);
        }
        int[] before = answers(x);
        x.keep();
        Checks.put(x, TEXT);
        x.back();
        x.keep();
        GaleBeach other = Checks.laid(TEXT);
        other.keep();
        other.back();
        checks.due("an object of its own", other.count(3), 0);
        x.back();
        int[] behind = answers(x);
        for (int i = 0; i < before.length; i++) {
            checks.due("answer " + i, behind[i], before[i]);
        }
        checks.due("finds", x.count(3), 12);
        checks.due("reports", x.count(4), 24);
        checks.due("numbers", x.count(5), 20);
    }

    private static int[] answers(GaleBeach x) {
        int[] all = new int[40];
        for (int i = 0; i < 12; i++) {
            all[i] = x.from(i);
        }
        for (int i = 0; i < 24; i++) {
            all[12 + i] = x.there(i % 2, i % 4, 30 + i);
        }
        all[36] = x.missed(0);
        all[37] = x.missed(1);
        all[38] = x.left(0);
        all[39] = x.fell(1);
        return all;
    }

    private static void counting() {
        GaleBeach x = Checks.laid(TEXT, "w>1:C1,1;:C1,1;:F0,0;");
        x.find(0, 0, 0);
        for (int i = 0; i < 5; i++) {
            x.report(0, 0, 0, 0, true);
        }
        for (int i = 1; i < 7; i++) {
            x.number(i);
        }
        x.keep();
        int[] due = {4, 2, 2, 1, 5, 6, 3, 21, 1};
        for (int what = 0; what < due.length; what++) {
            checks.due("count(" + what + ")", x.count(what), due[what]);
        }
        for (int what : new int[] {-1, 9, Integer.MIN_VALUE, Integer.MAX_VALUE}) {
            checks.due("count(" + what + ")", x.count(what), BAD);
        }
    }
}
