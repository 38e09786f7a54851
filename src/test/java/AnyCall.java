/** Each call of the face by its number, with arguments that look arbitrary. */
final class AnyCall {
    static final int CALLS = 47 - 1;
    static final int SEED = 29;
    static final int COUNT = 44;

    private static final int[] EDGES = {Integer.MIN_VALUE, Integer.MIN_VALUE + 1, -1000001, -256, -129, -2, 11,
        12, 13, 14, 16, 30, 31, 32, 39, 40, 41, 59, 60, 61, 99, 100, 120, 255, 999, 9999, 10000, 65535, 65536,
        Integer.MAX_VALUE - 4, Integer.MAX_VALUE - 1, Integer.MAX_VALUE};

    private static final String LETTERS = "fan hunger3 loaf;stale;boy colour 2 seat;widow#";

    private final Cities by;
    int call;
    int a;
    int b;
    int c;
    int d;
    int e;

    AnyCall(int seed) {
        by = new Cities(seed);
    }

    /** Picks the next call; most arguments are small, as those do the most. */
    void pick() {
        call = by.pick(CALLS);
        a = argument();
        b = argument();
        c = argument();
        d = argument();
        e = argument();
        if (call == 31 && by.pick(4) > 0) {
            int at = by.pick(LETTERS.length() - 4);
            a = LETTERS.charAt(at) << 24 | LETTERS.charAt(at + 1) << 16 | LETTERS.charAt(at + 2) << 8
                    | LETTERS.charAt(at + 3);
            b = 4;
        }
    }

    private int argument() {
        int sort = by.pick(12);
        if (sort == 0) {
            return EDGES[by.pick(EDGES.length)];
        }
        return sort < 4 ? by.pick(41) - 1 : by.pick(12) - 1;
    }

    boolean tellsZ() {
        return call == SEED || call == COUNT && a == 6;
    }

    @Override
    public String toString() {
        return "call " + call + " of " + a + ", " + b + ", " + c + ", " + d + ", " + e;
    }

    long make(BreadGames x) {
        return call < 26 ? makeEarly(x) : makeLate(x);
    }

    private long makeEarly(BreadGames x) {
        switch (call) {
            case 0: return x.citizen(a);
            case 1: return x.of(a, b);
            case 2: return x.change(a, b, c);
            case 3: return x.rule(a, b);
            case 4: return x.now(a);
            case 5: return x.wants(a);
            case 6: return x.swap(a, b);
            case 7: return x.gates();
            case 8: return x.changes();
            case 9: return x.buy(a, b, c);
            case 10: return x.welfare();
            case 11: return x.most();
            case 12: return x.price();
            case 13: return x.weeks(a);
            case 14: return x.ahead(a, b);
            case 15: return x.riot();
            case 16: return x.next(a);
            case 17: return x.loaves(a);
            case 18: return x.cheapest(a);
            case 19: return x.leader(a);
            case 20: return x.colourFor(a, b);
            case 21: return x.kindFor(a, b);
            case 22: return x.stale(a);
            case 23: return x.bound(a);
            case 24: return x.law(a, b);
            default: return x.ways();
        }
    }

    private long makeLate(BreadGames x) {
        switch (call) {
            case 26: return x.eats(a);
            case 27: return x.busy(a);
            case 28: return x.famine(a);
            case SEED: return x.seed(a);
            case 30: return x.wipe();
            case 31: return x.feed(a, b);
            case 32: return x.text();
            case 33: return x.hold(a, b);
            case 34: return x.as(a, b);
            case 35: return x.sheet(a % 6, 8 * (b % 5), c);
            case 36: return x.write(a % 6, b, c);
            case 37: return x.copy(a % 6, b, c % 6, d, e);
            case 38: return x.load(a % 6);
            case 39: return x.tally(a % 6);
            case 40: return x.judge(a % 6);
            case 41: return x.image();
            case 42: return x.undo();
            case 43: return x.tear();
            case COUNT: return x.count(a);
            default: return x.status(a);
        }
    }
}
