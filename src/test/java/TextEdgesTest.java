import java.nio.charset.StandardCharsets;
import java.util.Collections;

/** The edges of TEXTS, as a BEACH and as a LAW (promises 2 to 5): lengths, figures, signs, ranges, and how many there may be. */
final class TextEdgesTest {
    private static final int NO = Checks.NO, FULL = Checks.FULL, NONE = Checks.NONE;
    private static final String KIND = "k0,0,0,0;";
    private static final String BEACH = "n16;t-9,9;w999,-99,99;k0,10,9,999;l0,159,99,990,999;";
    private static final String LAW = ":F0,0;w>100:O30,25;c<2&h>5:C9,0;k>1&w<99&c>0:F7,100;";

    private static final Checks checks = new Checks("TextEdgesTest");

    public static void main(String[] args) {
        lengths();
        nearlyFull();
        bytesOfV();
        ranges();
        relations();
        figures();
        letters();
        cutShort();
        shorterThanBefore();
        oneByteOff(BEACH);
        oneByteOff(LAW);
        howMany();
        howManyRules();
        layingAgainAndAgain();
        emptyAtFirst();
        faultKeepsWhatIsLaid();
        theLastN();
        lawNumbers();
        lawConditions();
        checks.end();
    }

    private static void due(String call, long got, long want) {
        checks.due(call, got, want);
    }

    private static void fault(String text, int law, long place) {
        Face x = Face.gale();
        x.put(text);
        due("fault of " + text, x.call("fault", law), place);
        due("lay of " + text, x.call("lay", law) == NO ? 1 : 0, place == NONE ? 0 : 1);
    }

    /** "400 at most": each length from 392 on with each number of bytes. */
    private static void lengths() {
        for (int length = 392; length <= 400; length++) {
            for (int n = 1; n <= 8; n++) {
                Face x = Face.gale();
                x.add("n".repeat(length));
                boolean fits = length + n <= 400;
                due(n + " bytes behind " + length, x.call("write", n, 0), fits ? length + n : FULL);
                due("length", x.call("count", 7), fits ? length + n : length);
            }
        }
    }

    /** A write that is refused leaves no part of itself behind. */
    private static void nearlyFull() {
        for (int n = 5; n <= 8; n++) {
            Face x = Face.gale();
            x.add("n3;".repeat(132));
            due("write " + n, x.call("write", n, 0x7878787878787878L), FULL);
            due("no fault", x.call("fault", 0), NONE);
            due("the last four", x.call("write", 4, 0x6e31363b), 400);
            due("no fault at 400", x.call("fault", 0), NONE);
            due("lay 400", x.call("lay", 0), 16);
            due("wipe 400", x.call("wipe"), 400);
            due("wipe nothing", x.call("wipe"), 0);
            due("lay nothing", x.call("lay", 0), 8);
        }
    }

    /** The lowest n bytes of v, the highest of these first. */
    private static void bytesOfV() {
        long v = 0x6e31363b6e31343bL;
        for (int n = 1; n <= 8; n++) {
            Face x = Face.gale();
            due("write " + n, x.call("write", n, v), n);
            boolean wholeItems = n == 4 || n == 8;
            due("fault of the lowest " + n, x.call("fault", 0), wholeItems ? NONE : 0);
            due("lay of the lowest " + n, x.call("lay", 0), wholeItems ? 14 : NO);
        }
        Face x = Face.gale();
        due("no byte below 0 is a sign", x.call("write", 8, -1), 8);
        due("fault", x.call("fault", 0), 0);
        due("fault as law", x.call("fault", 1), 0);
    }

    /** Each number of each ITEM at both ends of what is told, and just beyond; the others at their ends, too. */
    private static void ranges() {
        String[] ahead = {"", "", "", "", KIND + KIND};
        int[][][] told = {{{1, 16}}, {{-9, 9}, {-9, 9}}, {{0, 999}, {-99, 99}, {-99, 99}},
            {{0, 10}, {0, 10}, {0, 9}, {0, 999}}, {{0, 1}, {0, 159}, {1, 99}, {0, 999}, {0, 999}}};
        for (int item = 0; item < told.length; item++) {
            for (int end = 0; end < 2; end++) {
                int[] numbers = new int[told[item].length];
                for (int i = 0; i < numbers.length; i++) {
                    numbers[i] = told[item][i][end];
                }
                fault(ahead[item] + itemOf(item, numbers), 0, NONE);
                for (int i = 0; i < numbers.length; i++) {
                    int stays = numbers[i];
                    numbers[i] = told[item][i][0] - 1;
                    fault(ahead[item] + itemOf(item, numbers), 0, ahead[item].length());
                    numbers[i] = told[item][i][1] + 1;
                    fault(ahead[item] + itemOf(item, numbers), 0, ahead[item].length());
                    numbers[i] = stays;
                }
            }
        }
    }

    private static String itemOf(int item, int[] numbers) {
        StringBuilder text = new StringBuilder().append("ntwkl".charAt(item));
        for (int i = 0; i < numbers.length; i++) {
            text.append(i == 0 ? "" : ",").append(numbers[i]);
        }
        return text.append(';').toString();
    }

    /** A no more than B; B no less than A, no more than 9 behind it; a KIND told ahead. */
    private static void relations() {
        for (int a = 0; a <= 10; a++) {
            for (int b = 0; b <= 10; b++) {
                fault("k" + a + "," + b + ",0,0;", 0, a <= b ? NONE : 0);
            }
        }
        for (int a : new int[] {0, 1, 9, 10, 500, 980, 990, 991, 999}) {
            for (int b = Math.max(0, a - 2); b <= Math.min(999, a + 11); b++) {
                fault(KIND + "l0,0,1," + a + "," + b + ";", 0, a <= b && b <= a + 9 ? NONE : 9);
            }
        }
        for (int kinds = 0; kinds <= 6; kinds++) {
            for (int kind = 0; kind <= 7; kind++) {
                fault(KIND.repeat(kinds) + "l" + kind + ",0,1,0,0;" + (kinds < 6 ? KIND : ""), 0, kind < kinds ? NONE : 9 * kinds);
            }
        }
    }

    /** One to three figures, perhaps with - ahead, not of 0. */
    private static void figures() {
        String[] good = {"0", "00", "000", "9", "09", "009", "-1", "-01", "-001", "-9", "-09", "-009"};
        String[] bad = {"", "-", "0000", "0009", "-0", "-00", "-000", "-0000", "-0001", "--1", "-+1", "+1", "1-", "- 1", " 1", "1 "};
        for (String number : good) {
            fault("n3;t" + number + ",0;", 0, NONE);
            fault("n3;t0," + number + ";", 0, NONE);
        }
        for (String number : bad) {
            fault("n3;t" + number + ",0;", 0, 3);
            fault("n3;t0," + number + ";", 0, 3);
        }
        for (String cells : new String[] {"1", "01", "001", "16", "016"}) {
            due("cells " + cells, Face.galeOf("n" + cells + ";").call("count", 0), Integer.parseInt(cells));
        }
        for (String cells : new String[] {"0", "00", "000", "17", "017", "0001", "0016", "160", "-1", "-0", "999"}) {
            fault("n" + cells + ";", 0, 0);
        }
    }

    /** Each byte that is no letter of an ITEM is a FAULT, whatever comes behind it. */
    private static void letters() {
        String[] behind = {"1;", "1,1;", "1,1,1;", "1,1,1,1;", "0,1,1,1,1;", ""};
        for (int sign = 0; sign < 256; sign++) {
            for (int i = 0; i < behind.length; i++) {
                boolean good = i < 5 && sign == "ntwkl".charAt(i);
                fault(KIND + (char) sign + behind[i], 0, good ? NONE : 9);
            }
        }
    }

    /** A TEXT that ends within an ITEM has its FAULT where that begins. */
    private static void cutShort() {
        for (int law = 0; law < 2; law++) {
            String whole = law == 0 ? BEACH : LAW;
            for (int length = 0; length <= whole.length(); length++) {
                String text = whole.substring(0, length);
                int begins = text.lastIndexOf(';') + 1;
                fault(text, law, begins == length ? NONE : begins);
            }
        }
    }

    /** What stood in a longer TEXT is not read behind the end of a shorter one. */
    private static void shorterThanBefore() {
        for (int law = 0; law < 2; law++) {
            String whole = law == 0 ? BEACH : LAW;
            for (int length = 0; length <= whole.length(); length++) {
                Face x = Face.gale();
                x.put(whole + whole.substring(0, 6));
                x.put(whole.substring(0, length));
                int begins = whole.substring(0, length).lastIndexOf(';') + 1;
                due("fault of the first " + length, x.call("fault", law), begins == length ? NONE : begins);
                due("lay of the first " + length, x.call("lay", law) == NO ? 1 : 0, begins == length ? 0 : 1);
            }
        }
        Face x = Face.gale();
        x.put("n".repeat(397) + "16;");
        x.put("n3;".repeat(132) + "n");
        due("cut at 397", x.call("fault", 0), 396);
    }

    /** Each byte changed into each other one, taken away, or put in: as the plain reading says. */
    private static void oneByteOff(String whole) {
        for (int at = 0; at <= whole.length(); at++) {
            String ahead = whole.substring(0, at);
            String behind = whole.substring(at);
            String without = behind.isEmpty() ? "" : behind.substring(1);
            asPlain(ahead + without);
            for (int sign = 0; sign < 256; sign++) {
                asPlain(ahead + (char) sign + without);
                asPlain(ahead + (char) sign + behind);
            }
        }
    }

    private static void asPlain(String text) {
        GaleBeach gale = new GaleBeach();
        PlainBeach plain = new PlainBeach();
        byte[] bytes = text.getBytes(StandardCharsets.ISO_8859_1);
        for (byte sign : bytes) {
            gale.write(1, sign);
            plain.write(1, sign);
        }
        due("fault of " + text, gale.fault(false), plain.fault(false));
        due("fault as law of " + text, gale.fault(true), plain.fault(true));
        due("lay of " + text, gale.lay(false), plain.lay(false));
        due("lay as law of " + text, gale.lay(true), plain.lay(true));
    }

    /** The last one that there may be does count, and one more is a FAULT. */
    private static void howMany() {
        String tides = "t0,0;".repeat(11) + "t0,-1;";
        Face x = Face.galeOf(tides);
        due("the twelfth tide", x.call("drift", 5, 1, 0, 0, 1), 12);
        due("goes round", x.call("drift", 5, 2, 0, 0, 1), 24);
        fault(tides + "t0,0;", 0, tides.length());
        String winds = "w0,0,0;".repeat(11) + "w5,0,-10;";
        due("the twelfth wind", Face.galeOf(winds).call("drift", 5, 1, 0, 10, 1), 6);
        fault(winds + "w5,0,-10;", 0, winds.length());
        fault(winds + "w6,0,-10;", 0, winds.length());
        String kinds = KIND.repeat(5) + "k3,7,0,0;l5,0,1,0,0;";
        x = Face.galeOf(kinds);
        due("the sixth kind", x.call("worlds", 0, 0), 5);
        due("six kinds", x.call("count", 1), 6);
        fault(kinds + KIND, 0, kinds.length());
        String losses = KIND + "l0,0,1,0,0;".repeat(7) + "l0,0,1,0,4;";
        x = Face.galeOf(losses);
        due("the eighth loss", x.call("worlds", 7, 0), 5);
        due("eight losses", x.call("count", 2), 8);
        fault(losses + "l0,0,1,0,0;", 0, losses.length());
        // what is full takes nothing from the others
        fault(tides + winds + KIND.repeat(6) + "l0,0,1,0,0;".repeat(8) + "n5;", 0, NONE);
        fault(tides + "w0,0,0;t0,0;", 0, tides.length() + 7);
    }

    private static void howManyRules() {
        String rules = "k>5:F1,1;".repeat(9) + ":O3,4;";
        Face x = Face.galeOf("k0,0,0,100;");
        x.lay(rules, 1);
        due("ten rules", x.call("count", 6), 10);
        due("the tenth", x.call("whose", 0, 0, 0, 0), 2);
        due("its days", x.call("whose", 0, 0, 0, 1), 3);
        due("its reward", x.call("whose", 0, 0, 0, 2), 4);
        fault(rules + ":F0,0;", 1, rules.length());
        x.put(rules + ":F0,0;");
        due("eleven", x.call("lay", 1), NO);
        due("ten stay", x.call("count", 6), 10);
    }

    /** What an earlier TEXT told is in no later one, however often and whichever way they were read. */
    private static void layingAgainAndAgain() {
        String most = "n4;" + "t0,-1;".repeat(12) + "w0,0,-9;".repeat(12) + KIND.repeat(6) + "l0,5,1,0,0;".repeat(8);
        String rules = "k>0&k>0&k>0:C1,1;".repeat(10);
        String[] texts = {most, "k1,1,1,1;l0,5,1,0,0;"};
        String[] laws = {rules, ":O2,2;"};
        int[][] due = {{4, 6, 8, 10}, {8, 1, 1, 1}};
        for (int pattern = 0; pattern < 32; pattern++) {
            Face x = Face.gale();
            for (int i = 0; i < 3; i++) {
                int which = pattern >> i & 1;
                x.put(laws[which]);
                due("fault as law", x.call("fault", 1), NONE);
                due("lay as law", x.call("lay", 1), due[which][3]);
                if ((pattern >> 3 & 1) == 1) {
                    x.put(texts[1 - which]);
                    due("fault of the other", x.call("fault", 0), NONE);
                }
                x.put(texts[which]);
                due("lay", x.call("lay", 0), due[which][0]);
                if ((pattern >> 4 & 1) == 1) {
                    x.put(laws[1 - which]);
                    due("fault of the other law", x.call("fault", 1), NONE);
                }
                for (int what = 1; what <= 2; what++) {
                    due("count(" + what + ")", x.call("count", what), due[which][what]);
                }
                due("rules", x.call("count", 6), due[which][3]);
                due("whose", x.call("whose", 0, 0, 0, 0), which == 0 ? 1 : 2);
                due("tide", x.call("drift", 5, 1, 0, 0, 0), which == 0 ? 0 : NONE);
                due("wind", x.call("drift", 5, 10, 0, 10, 1), which == 0 ? 1 : NONE);
            }
        }
    }

    /** LAID is empty at first, and an empty TEXT makes it so again. */
    private static void emptyAtFirst() {
        for (int round = 0; round < 2; round++) {
            Face x = round == 0 ? Face.gale() : Face.galeOf("n3;t0,-1;w0,0,-99;k0,0,0,0;l0,1,1,1,1;");
            if (round == 1) {
                x.lay(":C1,1;", 1);
                x.put("");
                due("no rules", x.call("lay", 1), 0);
                due("cells without", x.call("lay", 0), 8);
            }
            for (int what = 0; what <= 8; what++) {
                due("count(" + what + ")", x.call("count", what), what == 0 ? 8 : 0);
            }
            due("no tide, no wind", x.call("drift", 79, 1, 0, 10, 0), NONE);
            due("no fault", x.call("fault", 0), NONE);
            due("no fault as law", x.call("fault", 1), NONE);
        }
    }

    /** To ask for a FAULT, or to lay one, changes nothing of what is LAID, as BEACH and as LAW. */
    private static void faultKeepsWhatIsLaid() {
        Face x = Face.galeOf("n9;t0,-1;k2,5,0,100;l0,85,1,0,0;");
        x.lay("c>7:O5,50;", 1);
        String[] others = {"n3;t1,1;w0,9,9;k0,0,9,7;l0,5,5,5,5;", "n3;k0,0,9,7;x", ":C9,9;", "h<5:F1,1;:C9,9;:", ""};
        for (String other : others) {
            x.put(other);
            x.call("fault", 0);
            x.call("fault", 1);
            if (other.endsWith("x") || other.endsWith(":")) {
                due("lay a fault", x.call("lay", 0), NO);
                due("lay a fault as law", x.call("lay", 1), NO);
            }
            due("cells", x.call("count", 0), 9);
            due("worlds", x.call("worlds", 0, 0), 4);
            due("ashore", x.call("ashore", 0, 8, 1, 1), 4);
            due("drift", x.call("drift", 85, 2, 0, 5, 1), 2);
            due("rules", x.call("count", 6), 1);
            due("whose", x.call("whose", 0, 8, 0, 0), 2);
            due("reward", x.call("whose", 0, 8, 0, 2), 50);
            due("not whose", x.call("whose", 0, 7, 0, 0), 1);
            due("the text stays", x.call("count", 7), other.length());
        }
    }

    private static void theLastN() {
        due("of two", Face.galeOf("n16;n1;").call("count", 0), 1);
        due("of many", Face.galeOf("n1;".repeat(132) + "n16;").call("count", 0), 16);
        Face x = Face.galeOf("n2;t0,-1;" + KIND + "l0,159,1,0,0;n16;");
        due("for all of the text", x.call("ashore", 0, 15, 1, 1), 1);
        fault("n16;n17;", 0, 4);
        fault("n17;n16;", 0, 0);
    }

    /** Numbers of a LAW: one to three figures; hundredths 0 to 100. */
    private static void lawNumbers() {
        String[] good = {"0", "00", "000", "7", "99", "100", "099"};
        String[] bad = {"", "-1", "-0", "+1", "0000", "0100", "1000", " 1"};
        for (String number : good) {
            fault("w>" + number + ":F0,0;", 1, NONE);
            fault(":F" + number + ",0;", 1, NONE);
            fault(":F0," + number + ";", 1, NONE);
        }
        for (String number : bad) {
            fault(":C1,1;w<" + number + ":F0,0;", 1, 6);
            fault(":C1,1;:F" + number + ",0;", 1, 6);
            fault(":C1,1;:F0," + number + ";", 1, 6);
        }
        for (int hundredths = 0; hundredths <= 120; hundredths++) {
            fault(":O1," + hundredths + ";", 1, hundredths <= 100 ? NONE : 0);
        }
        for (int number : new int[] {101, 500, 999}) {
            fault("w>" + number + ":F0,0;", 1, NONE);
            fault(":F" + number + ",0;", 1, NONE);
            fault(":F0," + number + ";", 1, 0);
        }
    }

    /** None to three CONDITIONS with & between. */
    private static void lawConditions() {
        for (int many = 0; many <= 5; many++) {
            String conditions = String.join("&", Collections.nCopies(many, "h<9"));
            fault(conditions + ":F1,1;", 1, many <= 3 ? NONE : 0);
            fault("&" + conditions + ":F1,1;", 1, 0);
            fault(conditions + "&:F1,1;", 1, 0);
        }
        for (int sign = 0; sign < 256; sign++) {
            String s = String.valueOf((char) sign);
            fault(s + ">1:F1,1;", 1, "wkch".contains(s) ? NONE : 0);
            fault("h" + s + "1:F1,1;", 1, "<>".contains(s) ? NONE : 0);
            fault("h>1:" + s + "1,1;", 1, "FOC".contains(s) ? NONE : 0);
            fault("h>1:F1" + s + "1;", 1, s.equals(",") ? NONE : 0);
            fault("h>1:F1,1" + s, 1, s.equals(";") ? NONE : 0);
        }
    }
}
