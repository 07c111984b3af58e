import java.nio.charset.StandardCharsets;
import java.util.Random;

/** Runs of up to 512 calls, the same ones each time, on GaleBeach and on PlainBeach: each answer is the same. */
final class PlainTest {
    private static final Checks checks = new Checks("PlainTest");

    private final Random random;
    private final GaleBeach gale = new GaleBeach();
    private final PlainBeach plain = new PlainBeach();
    private final int run;
    private int calls = 0;

    private PlainTest(int run) {
        this.run = run;
        random = new Random(1000003L * run + 17);
    }

    public static void main(String[] args) {
        int runs = args.length > 0 ? Integer.parseInt(args[0]) : 400;
        int first = args.length > 1 ? Integer.parseInt(args[1]) : 0;
        for (int run = first; run < first + runs; run++) {
            new PlainTest(run).go();
        }
        checks.end();
    }

    private void go() {
        lay(texts(), false);
        while (calls < 512) {
            int dice = random.nextInt(100);
            if (dice < 2) {
                lay(texts(), false);
            } else if (dice < 4) {
                lay(laws(), true);
            } else if (dice < 30) {
                sea();
            } else if (dice < 60) {
                shore();
            } else if (dice < 75) {
                hopes();
            } else {
                others();
            }
        }
    }

    private void due(String call, long got, long want) {
        calls++;
        checks.due("run " + run + ", call " + calls + ": " + call, got, want);
    }

    /** Mostly from a to b, now and then just beside it, or far off. */
    private int pick(int a, int b) {
        int dice = random.nextInt(60);
        if (dice == 0) {
            return a - 1;
        }
        if (dice == 1) {
            return b + 1;
        }
        if (dice == 2) {
            return random.nextInt();
        }
        return b < a ? a : dice < 6 ? a : dice < 9 ? b : a + random.nextInt(b - a + 1);
    }

    private int cell() {
        return pick(0, plain.count(0) - 1);
    }

    private int kind() {
        return pick(0, plain.count(1) - 1);
    }

    private int loss() {
        return pick(0, plain.count(2) - 1);
    }

    private int hour() {
        return random.nextInt(3) == 0 ? pick(0, 999) : pick(0, 60);
    }

    private void lay(String text, boolean law) {
        due("wipe", gale.wipe(), plain.wipe());
        byte[] bytes = text.getBytes(StandardCharsets.ISO_8859_1);
        for (int at = 0; at < bytes.length;) {
            int n = Math.min(random.nextInt(10) == 0 ? 1 + random.nextInt(8) : 8, bytes.length - at);
            long v = random.nextInt();
            for (int i = 0; i < n; i++) {
                v = v << 8 | bytes[at + i] & 255;
            }
            due("write", gale.write(n, v), plain.write(n, v));
            at += n;
        }
        due("fault of " + text, gale.fault(law), plain.fault(law));
        due("fault of " + text, gale.fault(!law), plain.fault(!law));
        due("lay " + text, gale.lay(law), plain.lay(law));
    }

    private int told(int a, int b) {
        return a + random.nextInt(b - a + 1);
    }

    private String texts() {
        StringBuilder text = new StringBuilder();
        if (random.nextInt(4) > 0) {
            text.append('n').append(told(1, 16)).append(';');
        }
        for (int i = told(0, 6); i > 0; i--) {
            text.append('t').append(told(-9, 9)).append(',').append(told(-9, 4)).append(';');
        }
        for (int i = told(0, 5); i > 0; i--) {
            text.append('w').append(told(0, 40)).append(',').append(told(-60, 60)).append(',').append(told(-99, 30)).append(';');
        }
        int kinds = told(1, 4);
        for (int i = 0; i < kinds; i++) {
            int low = told(0, 10);
            text.append('k').append(low).append(',').append(told(low, 10)).append(',').append(told(0, 9)).append(',')
                    .append(told(0, 999)).append(';');
        }
        for (int i = told(0, 8); i > 0; i--) {
            int hour = random.nextInt(10) == 0 ? told(900, 999) : told(0, 50);
            text.append('l').append(told(0, kinds - 1)).append(',').append(told(0, 159)).append(',').append(told(1, 60)).append(',')
                    .append(hour).append(',').append(Math.min(999, hour + told(0, 9))).append(';');
        }
        return spoilt(text, "ntwkl0123456789,;-x");
    }

    private String laws() {
        StringBuilder text = new StringBuilder();
        for (int i = told(0, 10); i > 0; i--) {
            int conditions = told(0, 3);
            for (int c = 0; c < conditions; c++) {
                char about = "wkch".charAt(random.nextInt(4));
                text.append(c == 0 ? "" : "&").append(about).append(random.nextBoolean() ? '<' : '>')
                        .append(about == 'k' ? told(0, 5) : about == 'c' ? told(0, 15) : told(0, 999));
            }
            text.append(':').append("FOC".charAt(random.nextInt(3))).append(told(0, 99)).append(',').append(told(0, 100)).append(';');
        }
        return spoilt(text, "wkch<>&:FOC0123456789,;-x");
    }

    /** Now and then a sign is put in, taken away or changed, or the end cut off. */
    private String spoilt(StringBuilder text, String signs) {
        for (int i = random.nextInt(5) == 0 ? told(1, 3) : 0; i > 0 && text.length() > 0; i--) {
            int at = random.nextInt(text.length());
            char sign = random.nextInt(20) == 0 ? (char) random.nextInt(256) : signs.charAt(random.nextInt(signs.length()));
            switch (random.nextInt(4)) {
                case 0 -> text.insert(at, sign);
                case 1 -> text.deleteCharAt(at);
                case 2 -> text.setCharAt(at, sign);
                default -> text.setLength(random.nextInt(6) == 0 ? at : text.length());
            }
        }
        text.setLength(Math.min(400, text.length()));
        return text.toString();
    }

    private void sea() {
        int a = hour();
        int b = Math.max(a, hour());
        int l = loss();
        int c = cell();
        switch (random.nextInt(4)) {
            case 0 -> {
                int x = pick(0, 10 * plain.count(0) - 1);
                int y = pick(1, 99);
                int s = pick(0, 10);
                int what = pick(0, 1);
                due("drift(" + x + ", " + y + ", " + a + ", " + s + ", " + what + ")", gale.drift(x, y, a, s, what), plain.drift(x, y, a, s, what));
            }
            case 1 -> {
                int what = pick(0, 2);
                due("worlds(" + l + ", " + what + ")", gale.worlds(l, what), plain.worlds(l, what));
            }
            case 2 -> due("ashore(" + l + ", " + c + ", " + a + ", " + b + ")", gale.ashore(l, c, a, b), plain.ashore(l, c, a, b));
            default -> due("ashore(" + l + ", " + c + ", 0, 999)", gale.ashore(l, c, 0, 999), plain.ashore(l, c, 0, 999));
        }
    }

    private void shore() {
        int k = kind();
        int c = cell();
        int h = hour();
        int f = pick(-1, plain.count(3) - 1);
        int e = pick(0, 9);
        int l = loss();
        int what = pick(0, 1);
        boolean saw = random.nextInt(3) == 0;
        switch (random.nextInt(20)) {
            case 0, 1 -> due("find(" + k + ", " + c + ", " + h + ")", gale.find(k, c, h), plain.find(k, c, h));
            case 2, 3 -> due("from(" + f + ")", gale.from(f), plain.from(f));
            case 4, 5, 6 -> due("parted(" + f + ")", gale.parted(f), plain.parted(f));
            case 7, 8 -> due("report(" + c + ", " + h + ", " + e + ", " + k + ", " + saw + ")",
                    gale.report(c, h, e, k, saw), plain.report(c, h, e, k, saw));
            case 9, 10, 11 -> due("there(" + k + ", " + c + ", " + h + ")", gale.there(k, c, h), plain.there(k, c, h));
            case 12, 13 -> due("missed(" + what + ")", gale.missed(what), plain.missed(what));
            case 14, 15, 16 -> due("left(" + l + ")", gale.left(l), plain.left(l));
            case 17 -> due("keep()", gale.keep(), plain.keep());
            default -> due("back()", gale.back(), plain.back());
        }
    }

    private void hopes() {
        int a = cell();
        int b = random.nextInt(5) == 0 ? cell() : Math.max(a, cell());
        int h = hour();
        int e = pick(0, 9);
        int n = pick(1, random.nextBoolean() ? 3 : plain.count(0));
        int m = pick(1, 3);
        int i = pick(-1, m - 1);
        int what = pick(0, 1);
        switch (random.nextInt(3)) {
            case 0 -> due("hope(" + a + ", " + b + ", " + h + ", " + e + ")", gale.hope(a, b, h, e), plain.hope(a, b, h, e));
            case 1 -> due("walk(" + n + ", " + h + ", " + e + ", " + what + ")", gale.walk(n, h, e, what), plain.walk(n, h, e, what));
            default -> due("walks(" + n + ", " + m + ", " + h + ", " + e + ", " + i + ")",
                    gale.walks(n, m, h, e, i), plain.walks(n, m, h, e, i));
        }
    }

    private void others() {
        int k = kind();
        int c = cell();
        int h = hour();
        int d = pick(0, 9);
        int e = pick(0, 9);
        int u = random.nextBoolean() ? hour() : h + told(-12, 12);
        int test = pick(0, 5);
        int stuff = pick(0, 7);
        int v = pick(0, random.nextBoolean() ? 1 : 3);
        int set = pick(1, 255);
        int what = pick(0, 2);
        switch (random.nextInt(22)) {
            case 0, 1 -> {
                int number = pick(1, random.nextBoolean() ? 60 : 9999);
                due("number(" + number + ")", gale.number(number), plain.number(number));
            }
            case 2 -> due("fell(" + what + ")", gale.fell(what), plain.fell(what));
            case 3 -> {
                int b = pick(1, 1000);
                int a = pick(1, Math.max(1, b));
                due("most(" + a + ", " + b + ")", gale.most(a, b), plain.most(a, b));
            }
            case 4 -> {
                int z = pick(1, 999);
                int r = pick(0, 99);
                int years = pick(0, 99);
                due("glass(" + z + ", " + r + ", " + years + ")", gale.glass(z, r, years), plain.glass(z, r, years));
                due("life(" + z + ", " + r + ")", gale.life(z, r), plain.life(z, r));
            }
            case 5, 6, 7 -> due("whose(" + k + ", " + c + ", " + h + ", " + what + ")", gale.whose(k, c, h, what), plain.whose(k, c, h, what));
            case 8 -> {
                int ask = pick(0, 3);
                due("two(" + h + ", " + d + ", " + u + ", " + e + ", " + ask + ")", gale.two(h, d, u, e, ask), plain.two(h, d, u, e, ask));
            }
            case 9, 10, 11, 12, 13 -> due("show(" + test + ", " + stuff + ", " + v + ")", gale.show(test, stuff, v), plain.show(test, stuff, v));
            case 14 -> {
                int cost = pick(1, random.nextBoolean() ? 5 : 99);
                due("cost(" + test + ", " + cost + ")", gale.cost(test, cost), plain.cost(test, cost));
            }
            case 15, 16, 17 -> {
                int ask = pick(0, 1);
                due("parting(" + set + ", " + ask + ")", gale.parting(set, ask), plain.parting(set, ask));
            }
            case 18 -> due("shown(" + set + ", " + test + ", " + v + ")", gale.shown(set, test, v), plain.shown(set, test, v));
            case 19 -> {
                int n = pick(1, 8);
                long bytes = random.nextLong();
                due("write(" + n + ", " + bytes + ")", gale.write(n, bytes), plain.write(n, bytes));
            }
            default -> {
                int ask = pick(0, 8);
                due("count(" + ask + ")", gale.count(ask), plain.count(ask));
            }
        }
    }
}
