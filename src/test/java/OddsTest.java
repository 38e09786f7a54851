/** Promises 27 to 31. */
public final class OddsTest {
    public static void main(String[] args) {
        ways();
        eats();
        eatsOfTokensHad();
        busy();
        busyFive();
        famine();
        famineIsNoRiot();
        seed();
        Checks.end("OddsTest");
    }

    private static void ways() {
        Checks.due("27: nobody", new BreadGames().ways(), 1);
        BreadGames x = Checks.city("fan; fan; widow");
        Checks.due("27: enough of both", x.ways(), 8);
        Checks.read(x, "loaves 1; seats 5");
        Checks.due("27: one loaf at most", x.ways(), 4);
        Checks.read(x, "loaves 5; seats 1");
        Checks.due("27: one seat at most", x.ways(), 4);
        Checks.read(x, "loaves 1; seats 1");
        Checks.due("27: of the first two", x.ways(), 2);
        Checks.read(x, "loaves 0; seats 0");
        Checks.due("27: no tokens", x.ways(), 1);
        Checks.read(x, "boy; boy; boy; boy; boy; boy; boy; loaves 5; seats 5");
        Checks.due("27: ten", x.ways(), 252);
        Checks.read(x, "loaves 10; seats 10");
        Checks.due("27: all of ten", x.ways(), 1024);
        x.rule(0, 0);
        Checks.due("27: seats alone, enough", x.ways(), 1);
        x.rule(1, 9);
        Checks.due("27: seats alone, for nine", x.ways(), 1);
        x.rule(0, 1);
        Checks.due("27: one loaf, nine seats", x.ways(), 10);
        x.rule(0, 2);
        Checks.due("27: one token too many", x.ways(), 10 + 45);
        x.rule(1, 7);
        Checks.due("27: one token too few", x.ways(), 36);
        x.rule(1, 0);
        Checks.due("27: two loaves alone", x.ways(), 1);
    }

    private static void eats() {
        BreadGames x = Checks.city("widow hunger 6; fan hunger 0; boy; loaves 1; seats 1");
        Checks.due("28: changes at the gates count", x.eats(0), 2);
        Checks.due("28: never", x.eats(1), 0);
        Checks.due("28: has nothing", x.eats(2), 0);
        Checks.read(x, "leads 1; seats 2; loaves 2");
        Checks.due("28: the boy keeps what he has", x.eats(2), 3);
        Checks.due("28: citizen 3", x.eats(3), Checks.BEYOND);
        Checks.due("28: citizen -1", x.eats(-1), Checks.BEYOND);
        for (int far : Checks.FAR) {
            Checks.due("28: citizen " + far, x.eats(far), Checks.BEYOND);
        }
        Checks.due("28: the first finding in longs counts", x.status(0), 2 + Checks.FAR.length);
    }

    /** Who is not among the first has nothing, whatever it has now. */
    private static void eatsOfTokensHad() {
        BreadGames x = Checks.city("boy seat; boy loaf; boy loaf; boy seat; loaves 1; seats 1");
        String before = Checks.portrait(x);
        int[] due = {1, 1, 0, 0};
        for (int c = 0; c < 4; c++) {
            Checks.due("28: of citizen " + c, x.eats(c), due[c]);
        }
        Checks.read(x, "loaves 0; seats 0");
        for (int c = 0; c < 4; c++) {
            Checks.due("28: no tokens, citizen " + c, x.eats(c), 0);
        }
        Checks.read(x, "loaves 10");
        for (int c = 0; c < 4; c++) {
            Checks.due("28: loaves alone, citizen " + c, x.eats(c), 1);
        }
        Checks.read(x, "loaves 1; seats 1");
        Checks.holds("28: nothing has changed", before.equals(Checks.portrait(x)));
    }

    private static void busy() {
        BreadGames x = Checks.city("widow hunger 6; fan hunger 0; boy; loaves 1; seats 1");
        Checks.due("29: none", x.busy(0), 1);
        Checks.due("29: one", x.busy(1), 1);
        Checks.due("29: two", x.busy(2), 0);
        Checks.due("29: thirty", x.busy(30), 0);
        Checks.due("29: nobody", new BreadGames().busy(0), 1);
        Checks.due("29: 31", x.busy(31), Checks.BEYOND);
        Checks.due("29: -1", x.busy(-1), Checks.BEYOND);
        for (int far : Checks.FAR) {
            Checks.due("29: n " + far, x.busy(far), Checks.BEYOND);
        }
    }

    /** Five fans and five widows: as many changes as fans with a loaf. */
    private static void busyFive() {
        BreadGames x = Checks.city("fan hunger 0; fan hunger 0; fan hunger 0; fan hunger 0; fan hunger 0",
                "widow; widow; widow; widow; widow");
        long[] due = {1, 25, 100, 100, 25, 1};
        long all = 0;
        for (int n = 0; n <= 30; n++) {
            Checks.due("29: " + n, x.busy(n), n < due.length ? due[n] : 0);
            all += x.busy(n);
        }
        Checks.due("27: all of them", x.ways(), all);
        Checks.read(x, "loaves 0; seats 0");
        Checks.due("29: no tokens, no changes", x.busy(0), 1);
        Checks.due("29: no tokens, no changes", x.busy(1), 0);
    }

    private static void famine() {
        BreadGames x = Checks.city("citizen hunger 9; fan hunger 7 loaf; boy hunger 6; widow hunger 0");
        x.seed(1234);
        int z = 1234;
        int[] hunger = {9, 7, 6, 0};
        for (int round = 1; round <= 12; round++) {
            for (int i = 0; i < round; i++) {
                z = Checks.stirred(z);
                int who = (z >>> 8) % 4;
                z = Checks.stirred(z);
                hunger[who] = (z >>> 8) % 10;
            }
            int most = 0;
            for (int h : hunger) {
                most += h >= 7 ? 1 : 0;
            }
            Checks.due("30: " + round, x.famine(round), most);
            for (int c = 0; c < 4; c++) {
                Checks.due("30: hunger " + c, x.of(c, 1), hunger[c]);
            }
            Checks.due("30: z", x.count(6), z);
        }
        Checks.due("30: no week goes", x.now(0) + x.now(1), 0);
        Checks.due("30: tokens stay", x.now(3), 2);
        Checks.due("30: n 0", x.famine(0), Checks.BEYOND);
        Checks.due("30: n 13", x.famine(13), Checks.BEYOND);
        for (int far : Checks.FAR) {
            Checks.due("30: n " + far, x.famine(far), Checks.BEYOND);
        }
        Checks.due("30: no draw then", x.count(6), z);
        BreadGames none = new BreadGames();
        Checks.due("30: nobody", none.famine(1), Checks.STATE);
        Checks.due("30: nobody", none.famine(12), Checks.STATE);
        Checks.due("30: beyond before state", none.famine(13), Checks.BEYOND);
        Checks.due("30: no draw then", none.count(6), 1);
    }

    private static void famineIsNoRiot() {
        BreadGames x = Checks.city("boy hunger 9; boy hunger 7; boy hunger 6; bound 1");
        for (int round = 0; round < 20; round++) {
            int hungry = x.famine(1 + round % 12);
            Checks.due("30: who has 7 or more", hungry, Integer.bitCount(x.now(5)));
            Checks.due("30: no riot", x.now(1), 0);
        }
        BreadGames one = Checks.city("boy");
        for (int seed = 0; seed < 50; seed++) {
            one.seed(seed);
            int z = Checks.stirred(Checks.stirred(seed));
            int hunger = (z >>> 8) % 10;
            Checks.due("30: one alone, seed " + seed, one.famine(1), hunger >= 7 ? 1 : 0);
            Checks.due("30: its hunger, seed " + seed, one.of(0, 1), hunger);
            Checks.due("30: two draws, seed " + seed, one.count(6), z);
        }
    }

    private static void seed() {
        BreadGames x = new BreadGames();
        Checks.due("31: 1 at first", x.seed(-1000001), 1);
        Checks.due("31: any int", x.count(6), -1000001);
        Checks.due("31: any int", x.seed(Integer.MIN_VALUE), -1000001);
        Checks.due("31: any int", x.seed(Integer.MAX_VALUE), Integer.MIN_VALUE);
        Checks.due("31: any int", x.seed(0), Integer.MAX_VALUE);
        Checks.due("31: no finding", x.status(-1), 0);
        x.weeks(1);
        Checks.due("31: draws go on from it", x.count(6), 12345);
        Checks.due("31: leads", x.now(2), (12345 >>> 8) % 4);
    }
}
