import java.nio.charset.StandardCharsets;

/** Counts and prints the answers that are not as due, and ends a test accordingly. */
final class Checks {
    static final int BAD = -1, NO = -2, FULL = -3, NONE = -4;

    /** A beach of ten CELLS with tides, winds, three KINDS and five LOSSES. */
    static final String GALE = "n10;t2,-1;t1,-2;t-1,-1;t-3,1;w0,5,-20;w12,-30,-10;w40,0,-40;"
            + "k2,6,3,50;k0,10,6,120;k5,5,0,7;"
            + "l0,30,20,3,9;l0,55,12,0,5;l1,20,40,2,11;l2,80,9,10,10;l1,70,30,30,33;";

    private final String name;
    private int checked = 0;
    private int wrong = 0;

    Checks(String name) {
        this.name = name;
    }

    void due(String call, long got, long want) {
        checked++;
        if (got != want) {
            wrong++;
            if (wrong <= 40) {
                System.out.println(name + ": " + call + " answered " + got + ", due is " + want);
            }
        }
    }

    void holds(String what, boolean itDoes) {
        due(what, itDoes ? 1 : 0, 1);
    }

    void end() {
        System.out.println(name + ": " + checked + " answers looked at, " + wrong + " not as due");
        if (wrong != 0 || checked == 0) {
            System.exit(1);
        }
    }

    /** Puts a text in the place of THE TEXT, up to eight bytes a call. */
    static void put(GaleBeach beach, String text) {
        beach.wipe();
        byte[] bytes = text.getBytes(StandardCharsets.ISO_8859_1);
        for (int at = 0; at < bytes.length; at += 8) {
            int n = Math.min(8, bytes.length - at);
            long v = 0;
            for (int i = 0; i < n; i++) {
                v = v << 8 | bytes[at + i] & 255;
            }
            if (beach.write(n, v) != at + n) {
                throw new IllegalStateException("a text that does not fit: " + text);
            }
        }
    }

    static GaleBeach laid(String text) {
        GaleBeach beach = new GaleBeach();
        put(beach, text);
        if (beach.lay(false) < 1) {
            throw new IllegalStateException("a text that is not laid: " + text);
        }
        return beach;
    }

    static GaleBeach laid(String text, String law) {
        GaleBeach beach = laid(text);
        put(beach, law);
        if (beach.lay(true) < 0) {
            throw new IllegalStateException("a law that is not laid: " + law);
        }
        return beach;
    }

    static int faultOf(String text, boolean law) {
        GaleBeach beach = new GaleBeach();
        put(beach, text);
        return beach.fault(law);
    }
}
