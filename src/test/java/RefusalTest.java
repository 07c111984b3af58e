import java.util.ArrayList;
import java.util.List;
import java.util.function.Consumer;

/**
 * "Of several the first; nothing changes then": each refused call is made on one of two objects that are alike, and all
 * that later calls show of the two is alike still.
 */
final class RefusalTest {
    private static final int BAD = Checks.BAD, NO = Checks.NO, FULL = Checks.FULL, NONE = Checks.NONE;
    private static final String BEACH = "n4;t0,-1;w0,99,0;k0,1,3,50;k0,2,0,9;l0,5,1,0,4;l0,15,1,2,9;l1,5,1,0,0;";
    private static final String LAW = "w>9&c<3:O5,40;k<1:C7,2;";
    private static final Checks checks = new Checks("RefusalTest");

    private final String name;
    private final Consumer<Face> state;

    private RefusalTest(String name, Consumer<Face> state) {
        this.name = name;
        this.state = state;
    }

    public static void main(String[] args) {
        pictureShowsAll();
        inANewObject(new RefusalTest("a new object", x -> { }));
        inTheMiddle(new RefusalTest("some of all", RefusalTest::someOfAll));
        whereAllIsFull(new RefusalTest("all full", RefusalTest::allFull));
        withoutAWay(new RefusalTest("no way", RefusalTest::noWay));
        for (RefusalTest test : List.of(new RefusalTest("some of all", RefusalTest::someOfAll),
                new RefusalTest("all full", RefusalTest::allFull))) {
            test.badNumbers();
        }
        checks.end();
    }

    // ---- states

    private static void someOfAll(Face x) {
        x.lay(BEACH, 0);
        x.lay(LAW, 1);
        x.call("find", 0, 1, 6);
        x.call("report", 1, 3, 5, 0, 0);
        x.call("number", 41);
        x.call("keep");
        x.call("find", 1, 0, 9);
        x.call("report", 1, 4, 1, 0, 1);
        x.call("report", 1, 8, 1, 0, 0);
        x.call("number", 7);
        x.call("show", 0, 1, 2);
        x.call("show", 3, 2, 1);
        x.call("cost", 3, 8);
        x.put("n3;k0,0,0,5;l0,5,5,5");
    }

    private static void allFull(Face x) {
        x.lay(BEACH, 0);
        x.lay(LAW, 1);
        for (int i = 0; i < 24; i++) {
            x.call("report", i % 4, 2 + i, i % 10, i % 2, i % 3 == 0 ? 1 : 0);
            if (i == 10) {
                x.call("keep");
            }
        }
        for (int i = 0; i < 12; i++) {
            x.call("find", i % 2, i % 4, 10 + i);
            if (i == 5) {
                x.call("keep");
            }
        }
        for (int i = 0; i < 20; i++) {
            x.call("number", 50 + 7 * i);
        }
        x.put("n3;".repeat(133) + "n");
    }

    /** Three FINDS of one LOSS, and a TEXT with a FAULT either way. */
    private static void noWay(Face x) {
        x.lay(BEACH, 0);
        x.call("find", 1, 0, 9);
        x.call("find", 1, 0, 9);
        x.call("find", 0, 0, 9);
        x.put("n3;x");
    }

    // ---- what is refused

    private static void inANewObject(RefusalTest in) {
        in.refused(BAD, "write", 0, 1);
        in.refused(BAD, "write", 9, 1);
        in.refused(NONE, "fault", 0);
        in.refused(NONE, "fault", 1);
        in.refused(NONE, "drift", 5, 5, 0, 5, 0);
        in.refused(NONE, "drift", 5, 5, 0, 5, 1);
        in.refused(BAD, "parted", 0);
        in.refused(NONE, "walks", 3, 3, 0, 0, -1);
        in.refused(NONE, "walks", 3, 2, 0, 0, 2);
        in.refused(NO, "fell", 0);
        in.refused(NO, "fell", 2);
        in.refused(NO, "most", 1, 1);
        in.refused(NONE, "parting", 3, 0);
        in.refused(NONE, "parting", 3, 1);
        in.refused(NONE, "parting", 1, 1);
        in.refused(NO, "back");
        // BAD comes ahead of NO and of NONE
        in.refused(BAD, "fell", 3);
        in.refused(BAD, "fell", -1);
        in.refused(BAD, "most", 2, 1);
        in.refused(BAD, "most", 0, 1);
        in.refused(BAD, "most", 1001, 1001);
        in.refused(BAD, "walks", 3, 3, 0, 0, -2);
        in.refused(BAD, "walks", 3, 3, 1000, 0, -1);
        in.refused(BAD, "walks", 3, 2, 0, 10, 2);
        in.refused(BAD, "walks", 9, 1, 0, 0, 1);
        in.refused(BAD, "walks", 8, 4, 0, 0, 4);
        in.refused(BAD, "parting", 3, 2);
        in.refused(BAD, "parting", 3, -1);
        in.refused(BAD, "parting", 1, 2);
    }

    private static void inTheMiddle(RefusalTest in) {
        in.refused(NO, "lay", 0);
        in.refused(NO, "lay", 1);
        in.refused(NO, "number", 41);
        in.refused(NO, "number", 7);
        in.refused(BAD, "number", 0);
        in.refused(NONE, "drift", 39, 1, 999, 0, 0);
        in.refused(NONE, "drift", 39, 1, 0, 10, 1);
        in.refused(NONE, "walks", 2, 3, 50, 9, 0);
        in.refused(NONE, "walks", 1, 3, 50, 9, 3);
        in.refused(NONE, "parting", 255, 0);
        in.refused(NONE, "parting", 2, 1);
    }

    private static void whereAllIsFull(RefusalTest in) {
        in.refused(FULL, "write", 1, ';');
        in.refused(FULL, "write", 8, 0x6e353b6e353b6e35L);
        in.refused(FULL, "find", 0, 0, 0);
        in.refused(FULL, "find", 1, 3, 999);
        in.refused(FULL, "report", 0, 0, 0, 0, 0);
        in.refused(FULL, "report", 3, 999, 9, 1, 1);
        in.refused(FULL, "number", 1);
        in.refused(FULL, "number", 9999);
        in.refused(FULL, "keep");
        in.refused(NONE, "parted", -1);
        in.refused(NONE, "parted", 0);
        in.refused(NONE, "parted", 11);
        in.refused(NO, "lay", 0);
        in.refused(NO, "lay", 1);
        // BAD and NO come ahead of FULL, and BAD ahead of NONE
        in.refused(BAD, "write", 0, ';');
        in.refused(BAD, "write", 9, ';');
        in.refused(BAD, "find", 2, 0, 0);
        in.refused(BAD, "find", 0, 4, 0);
        in.refused(BAD, "find", 0, 0, 1000);
        in.refused(BAD, "report", 4, 0, 0, 0, 1);
        in.refused(BAD, "report", 0, 1000, 0, 0, 1);
        in.refused(BAD, "report", 0, 0, 10, 0, 1);
        in.refused(BAD, "report", 0, 0, 0, 2, 1);
        in.refused(BAD, "number", 0);
        in.refused(BAD, "number", 10000);
        in.refused(NO, "number", 50);
        in.refused(NO, "number", 183);
        in.refused(BAD, "parted", 12);
        in.refused(BAD, "parted", -2);
    }

    private static void withoutAWay(RefusalTest in) {
        in.refused(NONE, "parted", -1);
        in.refused(NONE, "parted", 0);
        in.refused(NONE, "parted", 2);
        in.refused(BAD, "parted", 3);
        in.refused(BAD, "parted", -2);
        in.refused(NO, "lay", 0);
        in.refused(NO, "lay", 1);
        in.refused(NO, "back");
    }

    /** Each number of each call that could change something, or could leave something behind, just beyond what is told. */
    private void badNumbers() {
        long[][][] ranges = {
            {{0, 39}, {1, 99}, {0, 999}, {0, 10}, {0, 1}}, {{0, 2}, {0, 2}}, {{0, 2}, {0, 3}, {0, 999}, {0, 999}},
            {{0, 1}, {0, 3}, {0, 999}}, {{0, 3}, {0, 999}, {0, 9}, {0, 1}}, {{0, 1}, {0, 3}, {0, 999}}, {{0, 1}}, {{0, 2}},
            {{0, 3}, {0, 3}, {0, 999}, {0, 9}}, {{1, 4}, {0, 999}, {0, 9}, {0, 1}}, {{1, 4}, {1, 3}, {0, 999}, {0, 9}},
            {{1, 9999}}, {{0, 2}}, {{1, 1000}, {1, 1000}}, {{1, 999}, {0, 99}, {0, 99}}, {{1, 999}, {0, 99}},
            {{0, 1}, {0, 3}, {0, 999}, {0, 2}}, {{0, 999}, {0, 9}, {0, 999}, {0, 9}, {0, 3}},
            {{0, 5}, {0, 7}, {0, 3}}, {{0, 5}, {1, 99}}, {{1, 255}, {0, 1}}, {{1, 255}, {0, 5}, {0, 3}}, {{0, 8}}};
        String[] calls = {"drift", "worlds", "ashore", "find", "report", "there", "missed", "left", "hope", "walk", "walks",
            "number", "fell", "most", "glass", "life", "whose", "two", "show", "cost", "parting", "shown", "count"};
        for (int call = 0; call < calls.length; call++) {
            for (int i = 0; i < ranges[call].length; i++) {
                // report and walks take one number more
                long[] args = new long[5];
                for (int j = 0; j < ranges[call].length; j++) {
                    args[j] = ranges[call][j][1];
                }
                args[i] = ranges[call][i][0] - 1;
                refused(BAD, calls[call], args.clone());
                args[i] = ranges[call][i][1] + 1;
                refused(BAD, calls[call], args);
            }
        }
    }

    private void refused(long answer, String call, long... args) {
        Face refusing = Face.gale();
        Face other = Face.gale();
        state.accept(refusing);
        state.accept(other);
        String what = Face.described(call, args) + " in " + name;
        checks.due(what, refusing.call(call, args), answer);
        List<Long> one = picture(refusing);
        List<Long> two = picture(other);
        for (int i = 0; i < two.size(); i++) {
            checks.due("behind " + what + ", answer " + i, one.get(i), two.get(i));
        }
    }

    // ---- what calls show

    /** What is taken does show, so that nothing would be hidden if a refused call changed it. */
    private static void pictureShowsAll() {
        Face plain = Face.gale();
        someOfAll(plain);
        List<Long> before = picture(plain);
        Object[][] taken = {{"write", 1L, (long) ';'}, {"wipe"}, {"find", 0L, 0L, 5L}, {"find", 1L, 0L, 5L}, {"report", 0L, 3L, 9L, 0L, 1L},
            {"report", 0L, 3L, 9L, 0L, 0L}, {"report", 3L, 3L, 0L, 1L, 0L}, {"number", 500L}, {"number", 1L}, {"keep"}, {"back"},
            {"show", 5L, 7L, 3L}, {"show", 0L, 1L, 0L}, {"cost", 0L, 2L}, {"cost", 5L, 99L}};
        for (Object[] call : taken) {
            Face x = Face.gale();
            someOfAll(x);
            long[] args = new long[call.length - 1];
            for (int i = 0; i < args.length; i++) {
                args[i] = (Long) call[i + 1];
            }
            checks.holds(Face.described((String) call[0], args) + " is taken", x.call((String) call[0], args) >= 0);
            checks.holds(Face.described((String) call[0], args) + " shows", !picture(x).equals(before));
        }
        for (int law = 0; law < 2; law++) {
            Face x = Face.gale();
            someOfAll(x);
            x.put("");
            x.call("lay", law);
            x.put("n3;k0,0,0,5;l0,5,5,5");
            checks.holds("lay shows", !picture(x).equals(before));
        }
    }

    private static List<Long> picture(Face x) {
        List<Long> all = new ArrayList<>();
        shoreOf(x, all);
        sea(x, all);
        hopes(x, all);
        law(x, all);
        stuffs(x, all);
        for (int i = 0; i < 3; i++) {
            all.add(x.call("back"));
            shoreOf(x, all);
        }
        theText(x, all);
        return all;
    }

    private static void shoreOf(Face x, List<Long> all) {
        for (int what = 0; what <= 8; what++) {
            all.add(x.call("count", what));
        }
        for (int find = 0; find < 12; find += 1 + find / 4) {
            all.add(x.call("from", find));
        }
        for (int find = -1; find < 3; find++) {
            all.add(x.call("parted", find));
        }
        for (int i = 0; i < 8; i++) {
            all.add(x.call("there", i % 2, i / 2, 4 + 2 * i));
        }
        for (int what = 0; what <= 2; what++) {
            all.add(x.call("fell", what));
            all.add(x.call("left", what));
            all.add(x.call("missed", what));
        }
    }

    private static void sea(Face x, List<Long> all) {
        all.add(x.call("fault", 0));
        all.add(x.call("fault", 1));
        all.add(x.call("drift", 5, 3, 0, 1, 0));
        all.add(x.call("drift", 5, 3, 0, 1, 1));
        for (int loss = 0; loss < 3; loss++) {
            all.add(x.call("worlds", loss, 0));
            all.add(x.call("worlds", loss, 1));
            all.add(x.call("ashore", loss, 1, 0, 4));
        }
    }

    private static void hopes(Face x, List<Long> all) {
        for (int cell = 0; cell < 4; cell++) {
            all.add(x.call("hope", 0, cell, 4, 9));
            all.add(x.call("hope", cell, cell, 99, 2));
        }
        all.add(x.call("walk", 1, 99, 9, 0));
        all.add(x.call("walk", 2, 99, 9, 1));
        for (int i = -1; i < 2; i++) {
            all.add(x.call("walks", 1, 2, 99, 9, i));
        }
        all.add(x.call("most", 1, 2));
    }

    private static void law(Face x, List<Long> all) {
        for (int kind = 0; kind < 3; kind++) {
            for (int what = 0; what < 3; what++) {
                all.add(x.call("whose", kind, 3, 5, what));
                all.add(x.call("whose", kind, 2, 5, what));
            }
        }
    }

    private static void stuffs(Face x, List<Long> all) {
        for (int test = 0; test < 6; test++) {
            for (int v = 0; v < 4; v++) {
                all.add(x.call("shown", 255, test, v));
            }
        }
        for (int set = 3; set < 8; set++) {
            all.add(x.call("parting", set, 0));
            all.add(x.call("parting", set, 1));
        }
        for (int test = 0; test < 6; test++) {
            all.add(x.call("cost", test, 1));
        }
    }

    /** What THE TEXT is, shown by what becomes of it when it goes on. */
    private static void theText(Face x, List<Long> all) {
        all.add(x.call("write", 1, ';'));
        all.add(x.call("fault", 0));
        all.add(x.call("lay", 1));
        all.add(x.call("lay", 0));
        all.add(x.call("count", 0));
        all.add(x.call("count", 2));
        all.add(x.call("wipe"));
        all.add(x.call("lay", 0));
    }
}
