/** Promises 1 to 5: a new object, write, wipe, fault, lay. */
final class TextTest {
    private static final int BAD = Checks.BAD, NO = Checks.NO, FULL = Checks.FULL, NONE = Checks.NONE;
    private static final String KIND = "k0,0,0,0;";

    private static final Checks checks = new Checks("TextTest");

    public static void main(String[] args) {
        newObject();
        writing();
        wiping();
        goodItems();
        badNumbers();
        badItems();
        tooMany();
        firstFault();
        goodRules();
        badRules();
        laying();
        layingForgets();
        layingLaw();
        checks.end();
    }

    private static void newObject() {
        GaleBeach x = new GaleBeach();
        checks.due("cells", x.count(0), 8);
        for (int what = 1; what <= 8; what++) {
            checks.due("count(" + what + ")", x.count(what), 0);
        }
        checks.due("drift in still water", x.drift(79, 1, 0, 10, 0), NONE);
        checks.due("drift beyond 8 cells", x.drift(80, 1, 0, 10, 0), BAD);
        checks.due("cell 7", (int) x.hope(0, 7, 0, 0), 0);
        checks.due("cell 8", (int) x.hope(0, 8, 0, 0), BAD);
        checks.due("no kinds", x.there(0, 0, 0), BAD);
    }

    private static void writing() {
        GaleBeach x = new GaleBeach();
        checks.due("write 0", x.write(0, 5), BAD);
        checks.due("write 9", x.write(9, 5), BAD);
        checks.due("write -1", x.write(-1, 5), BAD);
        checks.due("write min", x.write(Integer.MIN_VALUE, 5), BAD);
        checks.due("nothing came", x.count(7), 0);
        // the highest byte first: n 9 ; with higher bytes of v left out
        checks.due("write 3", x.write(3, 0x55555555006e393bL), 3);
        checks.due("no fault", x.fault(false), NONE);
        checks.due("lay", x.lay(false), 9);
        checks.due("write 8", x.write(8, 0x6e31303b6e31313bL), 11);
        checks.due("lay again", x.lay(false), 11);
        checks.due("a byte above 127", x.write(1, -1), 12);
        checks.due("its place", x.fault(false), 11);
        full();
    }

    private static void full() {
        GaleBeach x = new GaleBeach();
        for (int i = 1; i <= 49; i++) {
            checks.due("write 8", x.write(8, 0x6e30353b6e30353bL), 8 * i);
        }
        checks.due("write 7", x.write(7, 0x6e30353b6e353bL), 399);
        checks.due("write 2 more", x.write(2, 0x3b3b), FULL);
        checks.due("write 9 more", x.write(9, 0x3b3b), BAD);
        checks.due("still 399", x.count(7), 399);
        checks.due("no fault", x.fault(false), NONE);
        checks.due("write 1 more", x.write(1, 'k'), 400);
        checks.due("one too many", x.write(1, 'k'), FULL);
        checks.due("400", x.count(7), 400);
        checks.due("fault at the last byte", x.fault(false), 399);
        checks.due("wipe 400", x.wipe(), 400);
        checks.due("write anew", x.write(3, 0x6e363b), 3);
        checks.due("lay what is new", x.lay(false), 6);
    }

    private static void wiping() {
        GaleBeach x = new GaleBeach();
        checks.due("wipe nothing", x.wipe(), 0);
        Checks.put(x, "n5;k1,2,3,4;");
        checks.due("lay", x.lay(false), 5);
        checks.due("wipe", x.wipe(), 12);
        checks.due("empty", x.count(7), 0);
        checks.due("wipe again", x.wipe(), 0);
        checks.due("what is laid stays", x.count(0), 5);
        checks.due("its kinds, too", x.count(1), 1);
        checks.due("no fault in an empty text", x.fault(false), NONE);
        checks.due("nor as law", x.fault(true), NONE);
    }

    private static void none(String text) {
        checks.due("fault of " + text, Checks.faultOf(text, false), NONE);
    }

    private static void fault(String text, int place) {
        checks.due("fault of " + text, Checks.faultOf(text, false), place);
    }

    private static void goodItems() {
        none("");
        none("n1;");
        none("n16;");
        none("n016;");
        none("n3;n4;");
        none("t-9,-9;t9,9;t-09,009;t00,000;");
        none("w0,-99,-99;w999,99,99;w000,0,0;");
        none("k0,0,0,0;k10,10,9,999;k0,10,9,999;k3,3,3,3;");
        none(KIND + "l0,0,1,0,0;l0,159,99,999,999;l0,159,99,990,999;l0,5,5,7,16;");
        none("n1;" + KIND + "l0,159,99,0,9;");
        none(KIND + "k1,1,1,1;l1,0,1,0,0;k2,2,2,2;l2,0,1,0,0;n4;");
    }

    private static void badNumbers() {
        for (String number : new String[] {"", "-", "-0", "-00", "-000", "0001", "+1", "1-", "--1", " 1", "1 ", "1.", "a", ":", "/"}) {
            fault("t" + number + ",0;", 0);
            fault("t0," + number + ";", 0);
            fault("w" + number + ",0,0;", 0);
        }
        none("t-1,-01;t-001,1;");
    }

    private static void badItems() {
        for (String text : new String[] {
            "n0;", "n17;", "n-1;", "n;", "n", "n5", "n5,", "n5,6;", "n5:", "N5;", "5;", ";", "n5;;", ",", "x1;", "t1;", "t1,1,1;", "t1,1",
            "t-10,0;", "t10,0;", "t0,-10;", "t0,10;", "w0,0;", "w0,0,0,0;", "w-1,0,0;", "w0,-100,0;", "w0,100,0;",
            "w0,0,-100;", "w0,0,100;", "k0,0,0;", "k0,0,0,0,0;", "k-1,0,0,0;", "k11,11,0,0;", "k0,11,0,0;", "k5,4,0,0;",
            "k0,0,-1,0;", "k0,0,10,0;", "k0,0,0,-1;", "k0,0,0,1000;", "l0,1,1,1,1;"}) {
            fault(text, text.equals("n5;;") ? 3 : 0);
        }
        for (String text : new String[] {
            "l1,1,1,1,1;", "l-1,1,1,1,1;", "l0,-1,1,1,1;", "l0,160,1,1,1;", "l0,1,0,1,1;", "l0,1,-1,1,1;", "l0,1,100,1,1;",
            "l0,1,1,-1,1;", "l0,1,1,5,4;", "l0,1,1,5,15;", "l0,1,1,1;", "l0,1,1,1,1,1;", "l0,1,1,1,1", "l0,1,1,1,-1;"}) {
            fault(KIND + text, 9);
        }
        // a KIND told behind its LOSS is not told ahead
        fault("l0,1,1,1,1;" + KIND, 0);
        fault(KIND + "l1,1,1,1,1;" + KIND, 9);
    }

    private static void tooMany() {
        none("t1,1;".repeat(12));
        fault("t1,1;".repeat(13), 60);
        none("w1,1,1;".repeat(12));
        fault("w1,1,1;".repeat(13), 84);
        none(KIND.repeat(6));
        fault(KIND.repeat(7), 54);
        none(KIND + "l0,1,1,1,1;".repeat(8));
        fault(KIND + "l0,1,1,1,1;".repeat(9), 9 + 88);
        none("n1;".repeat(133));
    }

    private static void firstFault() {
        fault("n5;t1,1;x;n0;", 8);
        fault("n5;t1,1;n0;x;", 8);
        fault("n5; t1,1;", 3);
        fault("n5;\n", 3);
        fault("n5;t1,1;w", 8);
        fault("w>100:O30,25;", 0);
    }

    private static void lawNone(String text) {
        checks.due("fault as law of " + text, Checks.faultOf(text, true), NONE);
    }

    private static void lawFault(String text, int place) {
        checks.due("fault as law of " + text, Checks.faultOf(text, true), place);
    }

    private static void goodRules() {
        lawNone("");
        lawNone(":F0,0;");
        lawNone(":O999,100;");
        lawNone("w>100:C030,025;");
        lawNone("w<0&k>999:F1,1;");
        lawNone("c<2&h>5&w<007:C9,0;");
        lawNone("c<2&c<2&c<2:C9,0;:F000,000;k>1:F0,100;");
        lawNone(":F0,0;".repeat(10));
    }

    private static void badRules() {
        for (String text : new String[] {
            ":", ":F", ":F0", ":F0,", ":F0,0", ":F0,101;", ":F0,200;", ":F1000,0;", ":F0,0000;", ":F,0;", ":F0,;", ":F0;", ":F0,0,0;",
            ":F-1,0;", ":F0,-1;", ":f0,0;", ":X0,0;", ":0,0;", "F0,0;", ";", "w>1", "w>1F0,0;", "w>1:", "w>:F0,0;", "w>1000:F0,0;",
            "w>-1:F0,0;", "w=1:F0,0;", "w1:F0,0;", ">1:F0,0;", "x>1:F0,0;", "W>1:F0,0;", "&w>1:F0,0;", "w>1&:F0,0;", "w>1&&w>1:F0,0;",
            "w>1,w>1:F0,0;", "w>1&w>1&w>1&w>1:F0,0;", "w>1&w>1&w>1&:F0,0;", "w>1&w>1&w>1&F0,0;", " :F0,0;", "::F0,0;", "w>1:;", "w>1:F0,0:", "n5;"}) {
            lawFault(text, 0);
            lawFault(":F0,0;" + text, 6);
        }
        lawFault(":F0,0;".repeat(11), 60);
        lawFault(":F0,0;w>1:O1,1;k<1:C1,x;:Z", 15);
    }

    private static void laying() {
        GaleBeach x = new GaleBeach();
        checks.due("lay nothing", x.lay(false), 8);
        Checks.put(x, "n3;t1,1;n12;k1,2,3,4;k1,2,3,4;l1,1,1,1,1;");
        checks.due("the last of several", x.lay(false), 12);
        checks.due("cells", x.count(0), 12);
        checks.due("kinds", x.count(1), 2);
        checks.due("losses", x.count(2), 1);
        checks.due("the text stays", x.count(7), 41);
        checks.due("lay once more", x.lay(false), 12);
        checks.due("kinds are not added up", x.count(1), 2);
        checks.due("losses neither", x.count(2), 1);
        x.write(1, 'x');
        checks.due("lay with a fault", x.lay(false), NO);
        checks.due("cells stay", x.count(0), 12);
        checks.due("kinds stay", x.count(1), 2);
        checks.due("worlds stay", x.worlds(0, 0), 2);
        Checks.put(x, "t2,2;");
        checks.due("8 without", x.lay(false), 8);
        checks.due("no kinds", x.count(1), 0);
    }

    /** FINDS, REPORTS, numbers go and nothing is KEPT, but only when a BEACH is laid. */
    private static void layingForgets() {
        GaleBeach x = Checks.laid(KIND);
        x.find(0, 0, 0);
        x.report(0, 0, 0, 0, true);
        x.number(5);
        x.keep();
        x.show(0, 0, 3);
        x.cost(0, 7);
        int[] full = {1, 1, 1};
        x.fault(false);
        x.fault(true);
        forgotten(x, full, 1);
        checks.due("lay as law, a fault", x.lay(true), NO);
        forgotten(x, full, 1);
        x.wipe();
        checks.due("lay as law", x.lay(true), 0);
        forgotten(x, full, 1);
        Checks.put(x, "n0;");
        checks.due("lay a fault", x.lay(false), NO);
        forgotten(x, full, 1);
        Checks.put(x, KIND);
        checks.due("lay", x.lay(false), 8);
        forgotten(x, new int[] {0, 0, 0}, 0);
        checks.due("nothing to go back to", x.back(), NO);
        checks.due("a number anew", x.number(5), 1);
        checks.due("tests stay", x.show(0, 0, 0), 3);
        checks.due("costs stay", x.cost(0, 1), 7);
    }

    private static void forgotten(GaleBeach x, int[] shore, int kept) {
        for (int i = 0; i < 3; i++) {
            checks.due("count(" + (3 + i) + ")", x.count(3 + i), shore[i]);
        }
        checks.due("kept", x.count(8), kept);
    }

    private static void layingLaw() {
        GaleBeach x = Checks.laid("n5;k0,0,0,200;");
        Checks.put(x, "c>3:O5,50;:C9,1;");
        checks.due("fault as law", x.fault(true), NONE);
        checks.due("fault lays nothing", x.count(6), 0);
        checks.due("lay as law", x.lay(true), 2);
        checks.due("rules", x.count(6), 2);
        checks.due("as a beach", x.lay(false), NO);
        checks.due("cells stay", x.count(0), 5);
        x.write(1, ':');
        checks.due("fault as law", x.fault(true), 16);
        checks.due("lay with a fault", x.lay(true), NO);
        checks.due("rules stay", x.count(6), 2);
        checks.due("owner stays", x.whose(0, 4, 0, 0), 2);
        Checks.put(x, "n7;k0,0,0,10;");
        checks.due("another beach", x.lay(false), 7);
        checks.due("the law stays", x.count(6), 2);
        checks.due("and holds", x.whose(0, 6, 0, 2), 5);
        x.wipe();
        checks.due("no rules", x.lay(true), 0);
        checks.due("the finder's", x.whose(0, 6, 0, 0), 1);
    }
}
