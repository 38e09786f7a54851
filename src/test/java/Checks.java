import java.nio.charset.StandardCharsets;

/** Counts answers that are due, and makes objects from texts. */
final class Checks {
    static final int BEYOND = -1000001;
    static final int FULL = -1000002;
    static final int KIND = -1000003;
    static final int NONE = -1000004;
    static final int STATE = -1000005;
    static final int MISSING = -1000006;
    static final int SIZE = -1000007;

    static final int[] FAR = {Integer.MIN_VALUE, Integer.MIN_VALUE + 1, -1000001, -2, 1000, 65536,
        Integer.MAX_VALUE - 1, Integer.MAX_VALUE};

    private static int right = 0;
    private static int wrong = 0;

    private Checks() {
    }

    static void due(String what, long got, long want) {
        if (got == want) {
            right++;
            return;
        }
        wrong++;
        if (wrong <= 40) {
            System.out.println(what + " answered " + got + ", due is " + want);
        }
    }

    static void holds(String what, boolean so) {
        due(what, so ? 1 : 0, 1);
    }

    static void end(String name) {
        System.out.println(name + ": " + right + " right, " + wrong + " wrong");
        if (wrong != 0 || right == 0) {
            System.exit(1);
        }
    }

    static void put(BreadGames x, String bytes) {
        for (byte b : bytes.getBytes(StandardCharsets.ISO_8859_1)) {
            x.feed(b, 1);
        }
    }

    /** What text() answers to these bytes. */
    static int read(BreadGames x, String bytes) {
        put(x, bytes);
        return x.text();
    }

    /** A new object as texts tell it. */
    static BreadGames city(String... texts) {
        BreadGames x = new BreadGames();
        for (String text : texts) {
            int items = read(x, text);
            if (items < 0) {
                throw new IllegalArgumentException(text + " has a fault at " + (-1 - items));
            }
        }
        return x;
    }

    /** What a draw from z leaves z as. */
    static int stirred(int z) {
        return z * 1103515245 + 12345;
    }

    /** All that an object tells of itself without changing, as one text. */
    static String portrait(BreadGames x) {
        StringBuilder all = new StringBuilder();
        for (int what = 0; what <= 7; what++) {
            all.append(x.count(what)).append(' ');
        }
        for (int what = 0; what <= 6; what++) {
            all.append(x.now(what)).append(' ');
        }
        for (int c = 0; c < x.count(1); c++) {
            for (int what = 0; what <= 7; what++) {
                all.append(x.of(c, what)).append(' ');
            }
        }
        all.append(rules(x));
        return all.toString();
    }

    private static String rules(BreadGames x) {
        StringBuilder all = new StringBuilder();
        for (int what = 0; what <= 4; what++) {
            int was = x.rule(what, 1);
            x.rule(what, was);
            all.append(was).append(' ');
        }
        return all.toString();
    }
}
