/** Promises 15 to 18, on cities where a week can be told by hand. */
public final class WeeksTest {
    public static void main(String[] args) {
        draws();
        drawsRunOver();
        drawsOfOneSort();
        tokensHadAreGone();
        hungerEnds();
        onlyLoaves();
        onlySeats();
        tooFewTokens();
        gatesInTheWeek();
        riots();
        weeksWrong();
        ahead();
        aheadWrong();
        riot();
        riotAtTheEnd();
        next();
        nextDraws();
        lastWeeks();
        Checks.end("WeeksTest");
    }

    private static void draws() {
        BreadGames x = new BreadGames();
        int z = Checks.stirred(1);
        Checks.due("15: a week without citizens", x.weeks(1), 0);
        Checks.due("15: one draw", x.count(6), z);
        Checks.due("15: leads", x.now(2), (z >>> 8) % 4);
        BreadGames y = Checks.city("widow; widow; widow; loaves 1; seats 1; leads 3");
        y.seed(-77);
        z = Checks.stirred(-77);
        boolean firstEats = (z >>> 8) % 2 < 1;
        z = Checks.stirred(Checks.stirred(z));
        Checks.due("15: the week", y.weeks(1), 0);
        Checks.due("15: the first one", y.of(0, 1), firstEats ? 0 : 4);
        Checks.due("15: the second one", y.of(1, 1), firstEats ? 4 : 0);
        Checks.due("15: nothing is left for the third one", y.of(2, 1), 4);
        Checks.due("15: three draws", y.count(6), z);
        Checks.due("15: leads", y.now(2), (z >>> 8) % 4);
    }

    /** z is an int that runs over, and what a draw gives is never below 0. */
    private static void drawsRunOver() {
        int[] from = {1, 2, 0, -1, Integer.MAX_VALUE, Integer.MIN_VALUE};
        int[] to = {1103527590, -2087924461, 12345, -1103502900, 1043980748, -2147471303};
        int[] leads = {2, 1, 0, 1, 1, 0};
        for (int i = 0; i < from.length; i++) {
            BreadGames x = new BreadGames();
            x.seed(from[i]);
            x.weeks(1);
            Checks.due("15: z from " + from[i], x.count(6), to[i]);
            Checks.due("15: leads from " + from[i], x.now(2), leads[i]);
        }
    }

    /** If any are left there is a draw, also where all that are left are of one sort. */
    private static void drawsOfOneSort() {
        String[] rules = {"loaves 0; seats 2", "loaves 2; seats 0", "loaves 0; seats 1", "loaves 1; seats 0"};
        int[] draws = {2, 2, 1, 1};
        for (int i = 0; i < rules.length; i++) {
            BreadGames x = Checks.city("boy; boy; boy", rules[i]);
            x.weeks(1);
            int z = 1;
            for (int d = 0; d <= draws[i]; d++) {
                z = Checks.stirred(z);
            }
            Checks.due("15: draws, and that of LEADS: " + rules[i], x.count(6), z);
        }
    }

    private static void tokensHadAreGone() {
        BreadGames x = Checks.city("boy hunger 5 loaf; boy hunger 5 loaf; boy hunger 5 seat; loaves 1; seats 0");
        Checks.due("18: draws the one loaf", x.next(0), 1);
        Checks.due("18: its loaf is gone", x.next(1), 0);
        Checks.due("18: its seat is gone", x.next(2), 0);
        x.weeks(1);
        Checks.due("15: eats", x.of(0, 1), 2);
        Checks.due("15: has nothing to eat", x.of(1, 1), 6);
        Checks.due("15: sees nothing", x.of(2, 4), 0);
        BreadGames none = Checks.city("boy loaf; boy seat; loaves 0; seats 0");
        none.weeks(1);
        Checks.due("15: there are none at all", none.of(0, 1) + none.of(1, 1), 8);
        Checks.due("15: and no joy", none.count(4), 0);
    }

    private static void hungerEnds() {
        int[] fresh = {0, 0, 0, 0, 1, 2, 3, 4, 5, 6};
        int[] old = {0, 0, 0, 1, 2, 3, 4, 5, 6, 7};
        int[] fasting = {1, 2, 3, 4, 5, 6, 7, 8, 9, 9};
        for (int hunger = 0; hunger <= 9; hunger++) {
            BreadGames x = Checks.city("boy; bound 10; seats 0; loaves 1");
            x.change(0, 1, hunger);
            Checks.due("15: fresh, from " + hunger, x.ahead(1, 4), fresh[hunger]);
            x.rule(4, 1);
            Checks.due("15: stale, from " + hunger, x.ahead(1, 4), old[hunger]);
            x.rule(0, 0);
            Checks.due("15: none, from " + hunger, x.ahead(1, 4), fasting[hunger]);
            x.rule(1, 1);
            Checks.due("15: a seat, from " + hunger, x.ahead(1, 4), fasting[hunger]);
            x.rule(2, 1);
            int after = fasting[hunger] >= 7 ? 5 : fasting[hunger];
            Checks.due("15: riot or not, from " + hunger, x.ahead(1, 4), after);
            Checks.due("15: a riot at 7, from " + hunger, x.ahead(1, 0), fasting[hunger] >= 7 ? 1 : 0);
        }
    }

    private static void onlyLoaves() {
        BreadGames x = Checks.city("citizen hunger 9 seat; fan hunger 2 loaf; loaves 10; seats 0; bound 10");
        Checks.due("15: a week", x.weeks(1), 0);
        Checks.due("15: 3 less", x.of(0, 1), 6);
        Checks.due("15: 0 at least", x.of(1, 1), 0);
        Checks.due("15: no joy", x.count(4), 0);
        Checks.due("15: tokens are gone", x.now(3) + x.now(4), 0);
        Checks.due("15: week", x.now(0), 1);
        Checks.read(x, "stale");
        x.weeks(1);
        Checks.due("15: stale: 2 less", x.of(0, 1), 4);
    }

    private static void onlySeats() {
        BreadGames x = Checks.city("citizen hunger 9; fan hunger 2 colour 1; claque colour 1; widow",
                "loaves 0; seats 10; bound 10");
        x.weeks(1);
        int[] hunger = {9, 3, 4, 4};
        int[] joy = {6, 1, 5, 0};
        for (int c = 0; c < 4; c++) {
            Checks.due("15: hunger " + c, x.of(c, 1), hunger[c]);
            Checks.due("15: joy " + c, x.of(c, 4), joy[c]);
        }
        x.rule(3, 1);
        x.weeks(1);
        int[] more = {2, 12, 12, 0};
        for (int c = 0; c < 4; c++) {
            Checks.due("15: joy by now " + c, x.of(c, 4), joy[c] + more[c]);
        }
    }

    private static void tooFewTokens() {
        BreadGames x = Checks.city("fan; fan; fan; loaves 1; seats 0; bound 10");
        x.weeks(1);
        Checks.due("15: has the loaf", x.of(0, 1), 0);
        Checks.due("15: has none", x.of(1, 1), 4);
        Checks.due("15: has none", x.of(2, 1), 4);
        BreadGames none = Checks.city("fan; fan; loaves 0; seats 0");
        none.seed(9);
        none.weeks(1);
        Checks.due("15: a draw for LEADS alone", none.count(6), Checks.stirred(9));
        Checks.due("15: no joy", none.count(4), 0);
    }

    private static void gatesInTheWeek() {
        for (int seed = 0; seed < 20; seed++) {
            BreadGames x = Checks.city("widow hunger 6; fan hunger 0; loaves 1; seats 1");
            x.seed(seed);
            x.rule(3, 0);
            boolean widowDraws = (Checks.stirred(seed) >>> 8) % 2 < 1;
            Checks.due("16: a change if the fan draws the loaf", x.ahead(1, 3), widowDraws ? 0 : 1);
            x.weeks(1);
            Checks.due("15: the widow eats", x.of(0, 1), 3);
            Checks.due("15: the fan sees", x.of(1, 4), 12);
        }
    }

    private static void riots() {
        BreadGames x = Checks.city("citizen hunger 6; fan hunger 9; boy hunger 5; loaves 0; seats 0; bound 2");
        Checks.due("15: a riot", x.weeks(1), 1);
        for (int c = 0; c < 3; c++) {
            Checks.due("15: 5 at most", x.of(c, 1), 5);
        }
        Checks.due("15: 6 each, no riot", x.weeks(1), 0);
        Checks.due("15: 7 each", x.weeks(1), 1);
        Checks.due("15: two in four", x.weeks(4), 2);
        Checks.due("15: riots", x.now(1), 4);
        BreadGames calm = Checks.city("citizen hunger 9; fan hunger 4; boy hunger 1; loaves 0; seats 0; bound 2");
        Checks.due("15: one hungry one is too few", calm.weeks(2), 0);
        Checks.due("15: no one's hunger is less", calm.of(0, 1), 9);
        Checks.due("15: two are enough", calm.weeks(1), 1);
        Checks.due("15: who had less has it", calm.of(2, 1), 4);
    }

    private static void weeksWrong() {
        BreadGames x = Checks.city("widow; fan");
        for (int n : new int[] {0, 61, -1}) {
            Checks.due("15: n " + n, x.weeks(n), Checks.BEYOND);
        }
        for (int far : Checks.FAR) {
            Checks.due("15: n " + far, x.weeks(far), Checks.BEYOND);
        }
        for (int i = 0; i < 16; i++) {
            x.weeks(60);
        }
        Checks.due("15: week 960", x.now(0), 960);
        String before = Checks.portrait(x);
        Checks.due("15: too far", x.weeks(40), Checks.STATE);
        Checks.due("15: beyond before state", x.weeks(61), Checks.BEYOND);
        Checks.holds("15: nothing has changed", before.equals(Checks.portrait(x)));
        Checks.holds("15: just so far", x.weeks(39) >= 0);
        Checks.due("15: week 999", x.now(0), 999);
        Checks.due("15: no more", x.weeks(1), Checks.STATE);
        Checks.due("16: no more", x.ahead(1, 0), Checks.STATE);
        Checks.due("16: none is no more", x.ahead(0, 0), 0);
        Checks.due("18: no more", x.next(0), Checks.STATE);
        Checks.due("18: beyond before state", x.next(2), Checks.BEYOND);
    }

    private static void ahead() {
        BreadGames x = Checks.city("citizen hunger 6; fan hunger 8 colour 1; boy hunger 4 loaf",
                "loaves 0; seats 10; bound 3");
        String before = Checks.portrait(x);
        Checks.due("16: no riot at 0", x.ahead(0, 0), 0);
        Checks.due("16: hunger at 0", x.ahead(0, 1), 18);
        Checks.due("16: joy at 0", x.ahead(0, 2), 0);
        Checks.due("16: changes at 0", x.ahead(0, 3), 0);
        Checks.due("16: its hunger at 0", x.ahead(0, 6), 4);
        Checks.due("16: hunger at 2", x.ahead(2, 1), 8 + 9 + 6);
        Checks.due("16: riots at 2", x.ahead(2, 0), 0);
        Checks.due("16: riots at 3", x.ahead(3, 0), 1);
        Checks.due("16: hunger at 3", x.ahead(3, 1), 15);
        Checks.due("16: riots at 5", x.ahead(5, 0), 2);
        Checks.due("16: joy at 1", x.ahead(1, 2), 6 + 1 + 4);
        Checks.due("16: its hunger", x.ahead(1, 4), 7);
        Checks.due("16: its hunger", x.ahead(1, 5), 9);
        Checks.due("16: its hunger", x.ahead(1, 6), 5);
        Checks.holds("16: nothing has changed", before.equals(Checks.portrait(x)));
        x.weeks(3);
        Checks.due("16: only riots in them", x.ahead(1, 0), 0);
        Checks.due("16: only joy in them", x.ahead(0, 2), 0);
    }

    private static void aheadWrong() {
        BreadGames x = Checks.city("citizen; fan");
        int[][] beyond = {{-1, 0}, {61, 0}, {1, -1}, {1, 6}, {1, 14}};
        for (int[] w : beyond) {
            Checks.due("16: " + w[0] + " " + w[1], x.ahead(w[0], w[1]), Checks.BEYOND);
        }
        for (int far : Checks.FAR) {
            Checks.due("16: n " + far, x.ahead(far, 0), Checks.BEYOND);
            Checks.due("16: what " + far, x.ahead(1, far), Checks.BEYOND);
        }
        for (int i = 0; i < 16; i++) {
            x.weeks(60);
        }
        Checks.due("16: state", x.ahead(40, 0), Checks.STATE);
        Checks.due("16: beyond before state", x.ahead(40, 6), Checks.BEYOND);
        Checks.holds("16: just so far", x.ahead(39, 5) >= 0);
    }

    private static void riot() {
        BreadGames x = Checks.city("citizen hunger 5; loaves 0; seats 0; bound 1");
        Checks.due("17: in two", x.riot(), 2);
        x.weeks(1);
        Checks.due("17: in one", x.riot(), 1);
        Checks.due("17: nothing has changed", x.now(0), 1);
        Checks.read(x, "loaves 1");
        Checks.due("17: none", x.riot(), Checks.NONE);
        for (int i = 0; i < 15; i++) {
            x.weeks(60);
        }
        x.weeks(38);
        Checks.due("17: week 939", x.now(0), 939);
        Checks.due("17: none at 939", x.riot(), Checks.NONE);
        x.weeks(1);
        Checks.due("17: state at 940", x.riot(), Checks.STATE);
    }

    /** Two that never change, one loaf and one seat: these z were found by trying. */
    private static void riotAtTheEnd() {
        BreadGames x = Checks.city("boy; boy; loaves 1; seats 1; bound 1");
        x.seed(69);
        Checks.due("17: the 60th week", x.riot(), 60);
        Checks.due("16: the 60th week", x.ahead(60, 0), 1);
        Checks.due("16: none in 59", x.ahead(59, 0), 0);
        x.weeks(59);
        Checks.due("17: the next week", x.riot(), 1);
        BreadGames y = Checks.city("boy; boy; loaves 1; seats 1; bound 1");
        y.seed(142);
        Checks.due("17: the 61st week is too far", y.riot(), Checks.NONE);
        Checks.due("16: none in 60", y.ahead(60, 0), 0);
        y.weeks(1);
        Checks.due("17: it is the 60th now", y.riot(), 60);
        Checks.due("15: a riot, if 60 weeks go", y.weeks(60), 1);
    }

    private static void next() {
        BreadGames x = Checks.city("widow hunger 6 seat; fan hunger 0 loaf; boy; loaves 1; seats 1");
        String before = Checks.portrait(x);
        Checks.due("18: a loaf", x.next(0), 1);
        Checks.due("18: a seat", x.next(1), 2);
        Checks.due("18: none", x.next(2), 0);
        Checks.due("18: citizen 3", x.next(3), Checks.BEYOND);
        Checks.due("18: citizen -1", x.next(-1), Checks.BEYOND);
        for (int far : Checks.FAR) {
            Checks.due("18: citizen " + far, x.next(far), Checks.BEYOND);
        }
        Checks.holds("18: nothing has changed", before.equals(Checks.portrait(x)));
    }

    /** A widow and a fan change if the fan draws the loaf; two boys keep what they draw. */
    private static void nextDraws() {
        for (int seed = 0; seed < 20; seed++) {
            boolean firstEats = (Checks.stirred(seed) >>> 8) % 2 < 1;
            BreadGames boys = Checks.city("boy loaf; boy loaf; loaves 1; seats 1");
            boys.seed(seed);
            Checks.due("18: as drawn", boys.next(0), firstEats ? 1 : 2);
            Checks.due("18: the rest", boys.next(1), firstEats ? 2 : 1);
            BreadGames x = Checks.city("fan hunger 0; widow hunger 6; loaves 1; seats 1");
            x.seed(seed);
            Checks.due("18: sees, whatever it draws", x.next(0), 2);
            Checks.due("18: eats, whatever it draws", x.next(1), 1);
        }
    }

    private static void lastWeeks() {
        BreadGames x = Checks.city("boy; fan; bound 10");
        for (int i = 0; i < 15; i++) {
            x.weeks(60);
        }
        x.weeks(39);
        Checks.due("15: week 939", x.now(0), 939);
        Checks.holds("16: 60 from 939 on", x.ahead(60, 1) >= 0);
        x.image();
        Checks.holds("15: 60 from 939 on", x.weeks(60) >= 0);
        Checks.due("15: week 999", x.now(0), 999);
        Checks.due("44: week 939", x.undo(), 939);
        x.weeks(1);
        Checks.due("15: 60 from 940 on", x.weeks(60), Checks.STATE);
        Checks.due("16: 60 from 940 on", x.ahead(60, 1), Checks.STATE);
        x.weeks(58);
        Checks.due("15: week 998", x.now(0), 998);
        Checks.holds("16: one from 998 on", x.ahead(1, 1) >= 0);
        Checks.due("16: two from 998 on", x.ahead(2, 1), Checks.STATE);
        Checks.holds("18: the week behind 998", x.next(0) > 0);
        Checks.due("15: two from 998 on", x.weeks(2), Checks.STATE);
        Checks.due("15: one from 998 on", x.weeks(1), 0);
        Checks.due("15: one from 999 on", x.weeks(1), Checks.STATE);
        Checks.due("16: one from 999 on", x.ahead(1, 1), Checks.STATE);
        Checks.due("16: beyond before state", x.ahead(61, 1), Checks.BEYOND);
        Checks.due("16: beyond before state", x.ahead(1, 6), Checks.BEYOND);
        Checks.due("16: none from 999 on", x.ahead(0, 1), x.count(2));
        Checks.due("18: the week behind 999", x.next(0), Checks.STATE);
        Checks.due("15: it is 999 yet", x.now(0), 999);
    }
}
