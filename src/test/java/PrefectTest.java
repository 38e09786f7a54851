/** Promises 19 to 26: by hand, and by trying all that may be chosen on a city that is put back. */
public final class PrefectTest {
    public static void main(String[] args) {
        loaves();
        cheapest();
        cheapestOfSeats();
        leader();
        colourFor();
        kindFor();
        stale();
        bound();
        law();
        wrong();
        spans();
        stateBeforeNone();
        for (int seed = 1; seed <= 40; seed++) {
            tried(Cities.some(seed), 1 + seed * 7 % 60);
        }
        for (int seed = 1; seed <= 110; seed++) {
            tried(Cities.uneasy(seed), 2 + seed % 12);
        }
        Checks.end("PrefectTest");
    }

    private static void loaves() {
        BreadGames x = Checks.city("citizen hunger 9; widow hunger 9; boy hunger 9; seats 0; bound 1");
        Checks.due("19: all must eat", x.loaves(1), 3);
        Checks.read(x, "stale");
        Checks.due("19: 7 is too much", x.loaves(1), Checks.NONE);
        Checks.read(x, "fresh");
        Checks.read(x, "bound 3");
        Checks.due("19: one must fall below 7", x.loaves(1), 1);
        Checks.read(x, "bound 2; seats 4");
        Checks.holds("19: with seats the draws tell", x.loaves(1) >= 2);
        Checks.due("19: nobody", new BreadGames().loaves(60), 0);
        BreadGames ten = Checks.city("boy hunger 9; boy hunger 9; boy hunger 9; boy hunger 9; boy hunger 9",
                "boy hunger 9; boy hunger 9; boy hunger 9; boy hunger 9; boy hunger 9; seats 0; bound 1");
        Checks.due("19: ten", ten.loaves(1), 10);
        Checks.read(ten, "bound 10");
        Checks.due("19: one of ten", ten.loaves(1), 1);
        Checks.read(ten, "bound 9; stale");
        Checks.due("19: none of 11", ten.loaves(1), Checks.NONE);
        BreadGames y = Checks.city("citizen hunger 7; loaves 5; seats 10; bound 1");
        Checks.due("19: SEATS are as they are", y.loaves(1), leastByTrying(y, 0, 0, 10, 1));
        Checks.due("19: no rule has changed", y.rule(0, 5), 5);
    }

    private static void cheapest() {
        BreadGames x = Checks.city("citizen hunger 9; widow hunger 9; boy hunger 9; bound 3");
        Checks.due("20: one loaf", x.cheapest(1), 100);
        Checks.read(x, "bound 1");
        Checks.due("20: three loaves", x.cheapest(1), 300);
        Checks.read(x, "stale");
        Checks.due("20: none", x.cheapest(1), Checks.NONE);
        Checks.due("20: nobody", new BreadGames().cheapest(60), 0);
        Checks.due("20: no rule has changed", x.now(6), 25);
        BreadGames ten = Checks.city("boy hunger 9; boy hunger 9; boy hunger 9; boy hunger 9; boy hunger 9",
                "boy hunger 9; boy hunger 9; boy hunger 9; boy hunger 9; boy hunger 9; bound 1");
        Checks.due("20: ten loaves", ten.cheapest(1), 1000);
    }

    /** One that must eat among boys, who never change: these z were found by trying. */
    private static void cheapestOfSeats() {
        Checks.due("20: as many seats as can be", oneMustEat(8, 7, 7).cheapest(1), 110);
        Checks.due("20: no 11 seats", oneMustEat(10, 9, 99).cheapest(1), 210);
        Checks.due("20: no 11 seats", oneMustEat(10, 9, 159).cheapest(1), 505);
        BreadGames same = Checks.city("widow; boy hunger 8; boy; widow; bound 1");
        Checks.due("20: fewest loaves, though 400 costs as little", same.cheapest(10), 203);
        same.rule(0, 4);
        same.rule(1, 0);
        Checks.due("20: 400 would do, too", same.ahead(10, 0), 0);
    }

    private static BreadGames oneMustEat(int boys, int hungriest, int seed) {
        BreadGames x = new BreadGames();
        for (int c = 0; c < boys; c++) {
            x.citizen(6);
        }
        x.change(hungriest, 1, 6);
        x.rule(2, 1);
        x.seed(seed);
        return x;
    }

    private static void leader() {
        BreadGames x = Checks.city("fan colour 2; citizen colour 1; citizen colour 1; loaves 0; leads 3");
        Checks.due("21: 12, 2, 2 against 1, 6, 6", x.leader(1), 2);
        Checks.read(x, "citizen colour 1");
        Checks.due("21: 1, 6, 6, 6 against 12, 2, 2, 2", x.leader(1), 1);
        Checks.due("21: leads is as it was", x.now(2), 3);
        BreadGames same = Checks.city("seller; widow; leads 2");
        Checks.due("21: the least", same.leader(5), 0);
    }

    private static void colourFor() {
        BreadGames x = Checks.city("fan colour 2; citizen; loaves 0; leads 3");
        Checks.due("22: as the one that leads", x.colourFor(0, 1), 3);
        Checks.due("22: as it was", x.of(0, 2), 2);
        BreadGames same = Checks.city("widow colour 2");
        Checks.due("22: the least", same.colourFor(0, 30), 0);
    }

    private static void kindFor() {
        BreadGames x = Checks.city("citizen hunger 1 colour 3; widow hunger 9; loaves 1; seats 1; bound 10");
        int[] hungers = new int[7];
        int best = 0;
        for (int kind = 0; kind < 7; kind++) {
            x.change(0, 0, kind);
            hungers[kind] = x.ahead(2, 4);
            best = hungers[kind] < hungers[best] ? kind : best;
        }
        x.change(0, 0, 5);
        Checks.due("23: least hunger", x.kindFor(0, 2), best);
        Checks.due("23: as it was", x.of(0, 0), 5);
        BreadGames same = Checks.city("boy; loaves 0");
        Checks.due("23: the least", same.kindFor(0, 3), 0);
    }

    private static void stale() {
        BreadGames x = Checks.city("citizen hunger 9; loaves 10; seats 0; bound 1");
        Checks.due("24: 7 is a riot, 6 is none", x.stale(1), 1);
        Checks.read(x, "stale");
        Checks.due("24: the other way", x.stale(1), -1);
        Checks.due("24: as it was", x.rule(4, 1), 1);
    }

    private static void bound() {
        BreadGames x = Checks.city("citizen hunger 9; widow hunger 8; boy hunger 6; fan hunger 1",
                "loaves 0; seats 0; bound 7");
        Checks.due("25: more than three", x.bound(1), 4);
        Checks.due("25: as it was", x.rule(2, 7), 7);
        Checks.due("25: nobody", new BreadGames().bound(60), 1);
        BreadGames all = Checks.city("boy hunger 9; boy hunger 9; boy hunger 9; boy hunger 9; boy hunger 9",
                "boy hunger 9; boy hunger 9; boy hunger 9; boy hunger 9; loaves 0; seats 0");
        Checks.due("25: ten", all.bound(1), 10);
        all.change(8, 1, 5);
        Checks.due("25: nine", all.bound(1), 9);
        all.change(8, 1, 6);
        Checks.due("25: ten for 7, too", all.bound(1), 10);
        Checks.read(all, "boy hunger 9");
        Checks.due("25: none", all.bound(1), Checks.NONE);
    }

    private static void law() {
        BreadGames x = Checks.city("widow hunger 6; fan hunger 0; loaves 1; seats 1");
        int asItIs = x.ahead(1, 3);
        Checks.due("26: widows change nothing", x.law(1, 1), asItIs);
        Checks.due("26: sellers change nothing", x.law(5, 1), asItIs);
        Checks.due("26: kinds are as they were", 10 * x.of(0, 0) + x.of(1, 0), 12);
        BreadGames more = Checks.city("seller hunger 0; seller hunger 5 colour 1; loaves 1; seats 1");
        Checks.due("26: sellers never change", more.ahead(1, 3), 0);
        Checks.due("26: fans would", more.law(2, 1), -1);
        Checks.due("26: sellers as sellers", more.law(5, 60), 0);
        Checks.due("26: nobody", new BreadGames().law(6, 60), 0);
    }

    private static void wrong() {
        BreadGames x = Checks.city("widow; fan");
        int[] far = {0, -1, 61, Integer.MIN_VALUE, Integer.MAX_VALUE};
        for (int n : far) {
            wrongAt(x, n, Checks.BEYOND);
        }
        wrongWho(x);
        for (int i = 0; i < 16; i++) {
            x.weeks(60);
        }
        wrongAt(x, 40, Checks.STATE);
        wrongAt(x, 61, Checks.BEYOND);
        wrongWho(x);
        Checks.holds("24: just so far", x.stale(39) > -1000);
    }

    /** 1 and 60 weeks can be asked for, up to WEEK 999. */
    private static void spans() {
        BreadGames x = Checks.city("widow; fan; boy; bound 10");
        span(x, 1, true);
        span(x, 60, true);
        for (int i = 0; i < 15; i++) {
            x.weeks(60);
        }
        x.weeks(39);
        span(x, 60, true);
        x.weeks(1);
        span(x, 60, false);
        span(x, 59, true);
        x.weeks(58);
        span(x, 1, true);
        span(x, 2, false);
        x.weeks(1);
        span(x, 1, false);
        span(x, 60, false);
    }

    private static void span(BreadGames x, int n, boolean goes) {
        String at = " at " + x.now(0) + ", n " + n;
        String before = Checks.portrait(x);
        int[] answers = {x.loaves(n), x.cheapest(n), x.leader(n), x.colourFor(0, n), x.kindFor(0, n), x.stale(n),
            x.bound(n), x.law(0, n)};
        for (int i = 0; i < answers.length; i++) {
            if (goes) {
                Checks.holds((19 + i) + at, answers[i] > -1000);
            } else {
                Checks.due((19 + i) + at, answers[i], Checks.STATE);
            }
        }
        Checks.holds("19 to 26: nothing has changed" + at, before.equals(Checks.portrait(x)));
    }

    private static void stateBeforeNone() {
        BreadGames x = Checks.city("loaves 0; seats 0; bound 1; stale");
        for (int c = 0; c < 10; c++) {
            x.citizen(6);
            x.change(c, 1, 9);
        }
        Checks.due("19: none", x.loaves(1), Checks.NONE);
        Checks.due("20: none", x.cheapest(1), Checks.NONE);
        Checks.due("25: none", x.bound(1), Checks.NONE);
        for (int i = 0; i < 16; i++) {
            x.weeks(60);
        }
        x.weeks(39);
        for (int c = 0; c < 10; c++) {
            x.change(c, 1, 9);
        }
        Checks.due("19: state before none", x.loaves(1), Checks.STATE);
        Checks.due("20: state before none", x.cheapest(1), Checks.STATE);
        Checks.due("25: state before none", x.bound(1), Checks.STATE);
        Checks.due("19: beyond before state", x.loaves(0), Checks.BEYOND);
        Checks.due("20: beyond before state", x.cheapest(61), Checks.BEYOND);
        Checks.due("25: beyond before state", x.bound(-1), Checks.BEYOND);
    }

    private static void wrongAt(BreadGames x, int n, int due) {
        Checks.due("19: n " + n, x.loaves(n), due);
        Checks.due("20: n " + n, x.cheapest(n), due);
        Checks.due("21: n " + n, x.leader(n), due);
        Checks.due("22: n " + n, x.colourFor(0, n), due);
        Checks.due("23: n " + n, x.kindFor(0, n), due);
        Checks.due("24: n " + n, x.stale(n), due);
        Checks.due("25: n " + n, x.bound(n), due);
        Checks.due("26: n " + n, x.law(0, n), due);
    }

    private static void wrongWho(BreadGames x) {
        for (int n : new int[] {1, 40, 61}) {
            for (int who : new int[] {2, -1, 10, Integer.MIN_VALUE, Integer.MAX_VALUE}) {
                Checks.due("22: citizen " + who, x.colourFor(who, n), Checks.BEYOND);
                Checks.due("23: citizen " + who, x.kindFor(who, n), Checks.BEYOND);
            }
            for (int kind : new int[] {7, -1, Integer.MIN_VALUE, Integer.MAX_VALUE}) {
                Checks.due("26: kind " + kind, x.law(kind, n), Checks.BEYOND);
            }
        }
    }

    /** The answers are those that come from trying each choice and looking ahead. */
    private static void tried(BreadGames x, int n) {
        String before = Checks.portrait(x);
        Checks.due("19: tried", x.loaves(n), leastByTrying(x, 0, 0, 10, n));
        Checks.due("20: tried", x.cheapest(n), cheapestByTrying(x, n));
        Checks.due("21: tried", x.leader(n), leaderByTrying(x, n));
        for (int c = 0; c < x.count(1); c++) {
            Checks.due("22: tried", x.colourFor(c, n), traitByTrying(x, c, 2, 4, n));
            Checks.due("23: tried", x.kindFor(c, n), traitByTrying(x, c, 0, 7, n));
        }
        int was = x.rule(4, 0);
        int fresh = x.ahead(n, 0);
        x.rule(4, 1);
        int old = x.ahead(n, 0);
        x.rule(4, was);
        Checks.due("24: tried", x.stale(n), was == 0 ? old - fresh : fresh - old);
        Checks.due("25: tried", x.bound(n), leastByTrying(x, 2, 1, 10, n));
        for (int kind = 0; kind < 7; kind++) {
            Checks.due("26: tried", x.law(kind, n), lawByTrying(x, kind, n));
        }
        Checks.holds("19 to 26: nothing has changed", before.equals(Checks.portrait(x)));
    }

    private static int leastByTrying(BreadGames x, int what, int from, int to, int n) {
        int best = Checks.NONE;
        for (int v = to; v >= from; v--) {
            int was = x.rule(what, v);
            if (x.ahead(n, 0) == 0) {
                best = v;
            }
            x.rule(what, was);
        }
        return best;
    }

    private static int cheapestByTrying(BreadGames x, int n) {
        int wasLoaves = x.rule(0, 0);
        int wasSeats = x.rule(1, 0);
        int best = Checks.NONE;
        int leastCost = 1000;
        for (int bread = 0; bread <= 10; bread++) {
            for (int places = 0; places <= 10; places++) {
                x.rule(0, bread);
                x.rule(1, places);
                if (x.now(6) < leastCost && x.ahead(n, 0) == 0) {
                    leastCost = x.now(6);
                    best = 100 * bread + places;
                }
            }
        }
        x.rule(0, wasLoaves);
        x.rule(1, wasSeats);
        return best;
    }

    private static int leaderByTrying(BreadGames x, int n) {
        int was = x.rule(3, 0);
        int best = 0;
        int most = -1;
        for (int colour = 0; colour < 4; colour++) {
            x.rule(3, colour);
            if (x.ahead(n, 2) > most) {
                most = x.ahead(n, 2);
                best = colour;
            }
        }
        x.rule(3, was);
        return best;
    }

    private static int traitByTrying(BreadGames x, int citizen, int what, int end, int n) {
        int was = x.of(citizen, what);
        int best = 0;
        int most = Integer.MIN_VALUE;
        x.image();
        for (int v = 0; v < end; v++) {
            x.change(citizen, what, v);
            x.weeks(n);
            int good = what == 2 ? x.of(citizen, 4) : -x.of(citizen, 1);
            if (good > most) {
                most = good;
                best = v;
            }
            x.undo();
        }
        x.change(citizen, what, was);
        return best;
    }

    private static int lawByTrying(BreadGames x, int kind, int n) {
        int asItIs = x.ahead(n, 3);
        x.image();
        for (int c = 0; c < x.count(1); c++) {
            x.change(c, 0, kind);
        }
        int allAlike = x.ahead(n, 3);
        x.undo();
        return asItIs - allAlike;
    }
}
