import java.util.ArrayList;
import java.util.List;

/**
 * Each number of each call (promises 2 to 32) at both ends of what is told, and just beyond them: BAD beyond, and at the
 * ends what the plain reading answers, which is not BAD.
 */
final class BoundsTest {
    private static final int BAD = Checks.BAD;
    private static final long FAR_BELOW = Integer.MIN_VALUE, FAR_ABOVE = Integer.MAX_VALUE;
    private static final String MOST = "n16;t0,-1;w0,99,0;" + "k0,1,3,5;".repeat(6) + "l0,5,1,0,0;".repeat(6) + "l5,150,1,0,9;".repeat(2);

    private static final Checks checks = new Checks("BoundsTest");

    /** A call, and from what to what each of its numbers goes. */
    private record Row(String name, long[][] ranges) { }

    private final String text;
    private final int finds;
    private final List<Row> rows = new ArrayList<>();

    private BoundsTest(String text, int finds) {
        this.text = text;
        this.finds = finds;
    }

    public static void main(String[] args) {
        GaleBeach fresh = new GaleBeach();
        checks.due("cells of a new object", fresh.count(0), 8);
        new BoundsTest("", 0).go(8, 0, 0);
        new BoundsTest("n1;t0,-1;k0,0,0,999;l0,5,1,0,0;", 1).go(1, 1, 1);
        new BoundsTest("n3;t1,-1;k0,9,3,5;k2,3,0,9;l1,15,4,5,8;", 5).go(3, 2, 1);
        new BoundsTest("n15;t1,-1;k0,9,3,5;", 12).go(15, 1, 0);
        new BoundsTest(MOST, 12).go(16, 6, 8);
        checks.end();
    }

    private void go(int cells, int kinds, int losses) {
        sea(cells, losses);
        shore(cells, kinds, losses);
        walks(cells);
        others(cells, kinds);
        for (Row row : rows) {
            for (int i = 0; i < row.ranges.length; i++) {
                ends(row, i);
                beyond(row, i);
            }
        }
    }

    private void row(String name, long[]... ranges) {
        rows.add(new Row(name, ranges));
    }

    private static long[] to(long low, long high) {
        return new long[] {low, high};
    }

    private void sea(int cells, int losses) {
        row("write", to(1, 8), to(0x6e313b, 0x6e363b));
        row("drift", to(0, 10 * cells - 1), to(1, 99), to(0, 999), to(0, 10), to(0, 1));
        row("worlds", to(0, losses - 1), to(0, 2));
        row("ashore", to(0, losses - 1), to(0, cells - 1), to(0, 999), to(0, 999));
    }

    private void shore(int cells, int kinds, int losses) {
        row("find", to(0, kinds - 1), to(0, cells - 1), to(0, 999));
        row("from", to(0, finds - 1));
        row("parted", to(-1, finds - 1));
        row("report", to(0, cells - 1), to(0, 999), to(0, 9), to(0, kinds - 1), to(0, 1));
        row("there", to(0, kinds - 1), to(0, cells - 1), to(0, 999));
        row("missed", to(0, 1));
        row("left", to(0, losses - 1));
    }

    private void walks(int cells) {
        row("hope", to(0, cells - 1), to(0, cells - 1), to(0, 999), to(0, 9));
        row("walk", to(1, cells), to(0, 999), to(0, 9), to(0, 1));
        row("walks", to(1, cells), to(1, 3), to(0, 999), to(0, 9), to(-1, FAR_ABOVE));
    }

    private void others(int cells, int kinds) {
        row("number", to(1, 9999));
        row("fell", to(0, 2));
        row("most", to(1, 1000), to(1, 1000));
        row("glass", to(1, 999), to(0, 99), to(0, 99));
        row("life", to(1, 999), to(0, 99));
        row("whose", to(0, kinds - 1), to(0, cells - 1), to(0, 999), to(0, 2));
        row("two", to(0, 999), to(0, 9), to(0, 999), to(0, 9), to(0, 3));
        row("show", to(0, 5), to(0, 7), to(0, 3));
        row("cost", to(0, 5), to(1, 99));
        row("parting", to(1, 255), to(0, 1));
        row("shown", to(1, 255), to(0, 5), to(0, 3));
        row("count", to(0, 8));
    }

    /** One object a call, so that none sees what another one did; what the call itself adds to has room. */
    private Face madeFor(Row row, Face face) {
        if (!text.isEmpty()) {
            face.lay(text, 0);
        }
        int many = row.name.equals("find") ? Math.min(finds, 11) : finds;
        for (int i = 0; i < many; i++) {
            face.call("find", 0, 0, 100 + i);
        }
        if (row.name.equals("fell") || row.name.equals("most")) {
            face.call("number", 7);
        }
        return face;
    }

    /** All numbers at their low ends (0), or at their high ones (1). */
    private static long[] all(Row row, int end) {
        long[] args = new long[row.ranges.length];
        for (int i = 0; i < args.length; i++) {
            args[i] = row.ranges[i][end];
        }
        return args;
    }

    private static long[] with(long[] args, int i, long v) {
        long[] other = args.clone();
        other[i] = v;
        return other;
    }

    private static boolean isEmpty(Row row) {
        for (long[] range : row.ranges) {
            if (range[1] < range[0]) {
                return true;
            }
        }
        return false;
    }

    private void ends(Row row, int i) {
        for (int end = 0; end < 2 && !isEmpty(row); end++) {
            long[] args = all(row, end);
            checks.holds(shown(row, args) + " is not BAD", madeFor(row, Face.gale()).call(row.name, args) != BAD);
            asPlain(row, args);
            asPlain(row, with(args, i, row.ranges[i][1 - end]));
        }
    }

    private void asPlain(Row row, long[] args) {
        checks.due(shown(row, args), madeFor(row, Face.gale()).call(row.name, args), madeFor(row, Face.plain()).call(row.name, args));
    }

    private void beyond(Row row, int i) {
        boolean told = !row.name.equals("write") || i == 0;
        boolean yesOrNo = row.name.equals("report") && i == 4;
        if (!told || yesOrNo) {
            return;
        }
        for (int end = 0; end < 2; end++) {
            long[] args = all(row, end);
            bad(row, with(args, i, row.ranges[i][0] - 1));
            bad(row, with(args, i, FAR_BELOW));
            if (row.ranges[i][1] < FAR_ABOVE) {
                bad(row, with(args, i, row.ranges[i][1] + 1));
                bad(row, with(args, i, FAR_ABOVE));
            }
        }
    }

    private void bad(Row row, long[] args) {
        checks.due(shown(row, args), madeFor(row, Face.gale()).call(row.name, args), BAD);
    }

    private String shown(Row row, long[] args) {
        return Face.described(row.name, args) + " on " + text;
    }
}
