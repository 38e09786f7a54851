/** Any call in any state: it answers, a finding changes nothing but status(), which counts it. */
public final class AnyCallTest {
    public static void main(String[] args) {
        for (int seed = 1; seed <= 400; seed++) {
            run(seed);
        }
        Checks.end("AnyCallTest");
    }

    private static void run(int seed) {
        BreadGames x = seed % 3 == 0 ? new BreadGames() : Cities.some(seed);
        AnyCall any = new AnyCall(seed);
        int[] found = new int[7];
        for (int i = 0; i < 512; i++) {
            String before = Checks.portrait(x);
            any.pick();
            long answer = any.make(x);
            boolean finding = answer < -1000000 && !any.tellsZ();
            if (finding) {
                Checks.holds("findings: " + any, answer >= Checks.SIZE);
                Checks.holds("nothing changes: " + any, before.equals(Checks.portrait(x)));
                found[(int) (Checks.BEYOND - answer)]++;
            }
            sane(x, any);
        }
        int all = 0;
        for (int which = 0; which < 7; which++) {
            Checks.due("47: " + which, x.status(which), found[which]);
            all += found[which];
        }
        Checks.due("47: all", x.status(-1), all);
    }

    /** What holds of every city. */
    private static void sane(BreadGames x, AnyCall any) {
        boolean so = x.count(1) >= 0 && x.count(1) <= 10 && x.now(0) >= 0 && x.now(0) <= 999 && x.now(2) >= 0
                && x.now(2) <= 3 && x.count(5) >= 0 && x.count(5) <= 120 && (x.now(3) & x.now(4)) == 0;
        for (int c = 0; c < x.count(1); c++) {
            so &= x.of(c, 0) >= 0 && x.of(c, 0) <= 6 && x.of(c, 1) >= 0 && x.of(c, 1) <= 9 && x.of(c, 2) >= 0
                    && x.of(c, 2) <= 3 && x.of(c, 3) >= 0 && x.of(c, 3) <= 9999 && x.of(c, 4) >= 0;
        }
        Checks.holds("a city: " + any, so);
    }
}
