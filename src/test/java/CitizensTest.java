/** Promises 1 to 6. */
public final class CitizensTest {
    public static void main(String[] args) {
        newObject();
        citizen();
        ofWorths();
        ofWorthsOfTheHungriest();
        ofWrong();
        change();
        changeToTheMost();
        changeWrong();
        rule();
        ruleWrong();
        now();
        nowOfTen();
        Checks.end("CitizensTest");
    }

    private static void newObject() {
        BreadGames x = new BreadGames();
        int[] counts = {0, 0, 0, 0, 0, 0, 1, 0};
        for (int what = 0; what < counts.length; what++) {
            Checks.due("1: count " + what, x.count(what), counts[what]);
        }
        int[] nows = {0, 0, 0, 0, 0, 0, 25};
        for (int what = 0; what < nows.length; what++) {
            Checks.due("1: now " + what, x.now(what), nows[what]);
        }
        int[] rules = {5, 5, 3, 0, 0};
        for (int what = 0; what < rules.length; what++) {
            Checks.due("1: rule " + what, x.rule(what, rules[what]), rules[what]);
        }
        Checks.due("1: tape", x.wipe(), 0);
        Checks.due("1: nothing found", x.status(-1), 0);
        for (int s = 0; s < 4; s++) {
            Checks.due("1: sheet", x.write(s, 0, 1), Checks.MISSING);
        }
        for (int spot = 0; spot < 10; spot++) {
            Checks.due("1: spot", x.as(spot, 0), Checks.MISSING);
        }
        Checks.due("1: no image", x.undo(), Checks.NONE);
        Checks.due("1: no image to tear", x.tear(), 0);
    }

    private static void citizen() {
        BreadGames x = new BreadGames();
        for (int i = 0; i < 10; i++) {
            int kind = i % 7;
            Checks.due("2: number", x.citizen(kind), i);
            int[] first = {kind, 3, 0, 10, 0, 0};
            for (int what = 0; what < first.length; what++) {
                Checks.due("2: of " + what, x.of(i, what), first[what]);
            }
        }
        Checks.due("2: full", x.citizen(0), Checks.FULL);
        Checks.due("2: beyond before full", x.citizen(7), Checks.BEYOND);
        Checks.due("2: beyond before full", x.citizen(-1), Checks.BEYOND);
        Checks.due("2: still ten", x.count(1), 10);
        BreadGames none = new BreadGames();
        for (int far : Checks.FAR) {
            Checks.due("2: kind " + far, none.citizen(far), Checks.BEYOND);
        }
        Checks.due("2: kind 7", none.citizen(7), Checks.BEYOND);
        Checks.due("2: kind -1", none.citizen(-1), Checks.BEYOND);
        Checks.due("2: none came", none.count(1), 0);
    }

    private static void ofWorths() {
        int[] loafFresh = {10, 10, 10, 10, 14, 3, 4};
        int[] loafStale = {5, 5, 5, 5, 9, 3, 4};
        int[] seatLed = {6, 0, 12, 12, 0, 3, 4};
        int[] seatElse = {2, 0, 1, 5, 0, 3, 4};
        BreadGames x = new BreadGames();
        for (int kind = 0; kind < 7; kind++) {
            x.citizen(kind);
            x.change(kind, 1, 5);
        }
        x.rule(3, 2);
        for (int kind = 0; kind < 7; kind++) {
            Checks.due("3: loaf, kind " + kind, x.of(kind, 6), loafFresh[kind]);
            Checks.due("3: seat, kind " + kind, x.of(kind, 7), seatElse[kind]);
            x.change(kind, 2, 2);
            Checks.due("3: led, kind " + kind, x.of(kind, 7), seatLed[kind]);
        }
        x.rule(4, 1);
        for (int kind = 0; kind < 7; kind++) {
            Checks.due("3: stale, kind " + kind, x.of(kind, 6), loafStale[kind]);
            Checks.due("3: stale seat, kind " + kind, x.of(kind, 7), seatLed[kind]);
            x.change(kind, 1, 0);
        }
        int[] loafSated = {0, 0, 0, 0, 4, 3, 4};
        for (int kind = 0; kind < 7; kind++) {
            Checks.due("3: sated, kind " + kind, x.of(kind, 6), loafSated[kind]);
        }
    }

    private static void ofWorthsOfTheHungriest() {
        int[] fresh = {18, 18, 18, 18, 22, 3, 4};
        int[] old = {9, 9, 9, 9, 13, 3, 4};
        for (int kind = 0; kind < 7; kind++) {
            BreadGames x = new BreadGames();
            x.citizen(kind);
            x.change(0, 1, 9);
            Checks.due("3: hungriest, kind " + kind, x.of(0, 6), fresh[kind]);
            x.rule(4, 1);
            Checks.due("3: hungriest, stale, kind " + kind, x.of(0, 6), old[kind]);
        }
    }

    private static void ofWrong() {
        BreadGames x = Checks.city("citizen; fan");
        Checks.due("3: citizen 2", x.of(2, 0), Checks.BEYOND);
        Checks.due("3: citizen -1", x.of(-1, 0), Checks.BEYOND);
        Checks.due("3: what 8", x.of(0, 8), Checks.BEYOND);
        Checks.due("3: what -1", x.of(0, -1), Checks.BEYOND);
        for (int far : Checks.FAR) {
            Checks.due("3: citizen " + far, x.of(far, 0), Checks.BEYOND);
            Checks.due("3: what " + far, x.of(0, far), Checks.BEYOND);
        }
    }

    private static void change() {
        BreadGames x = Checks.city("citizen; fan hunger 4 colour 1 coin 20 seat");
        Checks.due("4: kind", x.change(1, 0, 6), 2);
        Checks.due("4: hunger", x.change(1, 1, 9), 4);
        Checks.due("4: colour", x.change(1, 2, 3), 1);
        Checks.due("4: coin", x.change(1, 3, 9999), 20);
        Checks.due("4: token", x.change(1, 5, 1), 2);
        int[] now = {6, 9, 3, 9999, 0, 1};
        int[] other = {0, 3, 0, 10, 0, 0};
        for (int what = 0; what < now.length; what++) {
            Checks.due("4: now " + what, x.of(1, what), now[what]);
            Checks.due("4: the other one's " + what, x.of(0, what), other[what]);
        }
        for (int what : new int[] {0, 1, 2, 3, 5}) {
            Checks.due("4: to 0", x.change(1, what, 0), now[what]);
            Checks.due("4: is 0", x.change(1, what, 0), 0);
        }
    }

    private static void changeToTheMost() {
        BreadGames x = Checks.city("citizen");
        int[] what = {0, 1, 2, 3, 5};
        int[] most = {6, 9, 3, 9999, 2};
        int[] first = {0, 3, 0, 10, 0};
        for (int i = 0; i < what.length; i++) {
            Checks.due("4: to the most " + what[i], x.change(0, what[i], most[i]), first[i]);
            Checks.due("4: is the most " + what[i], x.of(0, what[i]), most[i]);
            Checks.due("4: one more " + what[i], x.change(0, what[i], most[i] + 1), Checks.BEYOND);
            Checks.due("4: one less than 0 " + what[i], x.change(0, what[i], -1), Checks.BEYOND);
            Checks.due("4: is the most yet " + what[i], x.change(0, what[i], 0), most[i]);
        }
    }

    private static void changeWrong() {
        BreadGames x = Checks.city("widow hunger 5 colour 2 coin 7 loaf");
        String before = Checks.portrait(x);
        int[][] wrong = {{1, 1, 1}, {-1, 1, 1}, {0, 4, 1}, {0, 6, 1}, {0, 7, 1}, {0, 8, 1}, {0, -1, 1},
            {0, 0, 7}, {0, 0, -1}, {0, 1, 10}, {0, 1, -1}, {0, 2, 4}, {0, 2, -1},
            {0, 3, 10000}, {0, 3, -1}, {0, 5, 3}, {0, 5, -1}};
        for (int[] w : wrong) {
            Checks.due("4: " + w[0] + " " + w[1] + " " + w[2], x.change(w[0], w[1], w[2]), Checks.BEYOND);
        }
        for (int far : Checks.FAR) {
            Checks.due("4: citizen " + far, x.change(far, 1, 1), Checks.BEYOND);
            Checks.due("4: what " + far, x.change(0, far, 1), Checks.BEYOND);
            if (far != 1000) {
                Checks.due("4: v " + far, x.change(0, 3, far), Checks.BEYOND);
            }
        }
        Checks.holds("4: nothing has changed", before.equals(Checks.portrait(x)));
    }

    private static void rule() {
        BreadGames x = new BreadGames();
        int[] first = {5, 5, 3, 0, 0};
        int[] least = {0, 0, 1, 0, 0};
        int[] most = {10, 10, 10, 3, 1};
        for (int what = 0; what < 5; what++) {
            Checks.due("5: first " + what, x.rule(what, least[what]), first[what]);
            Checks.due("5: least " + what, x.rule(what, most[what]), least[what]);
        }
        for (int what = 0; what < 5; what++) {
            Checks.due("5: most " + what, x.rule(what, first[what]), most[what]);
        }
        x.rule(3, 2);
        Checks.due("5: leads", x.now(2), 2);
    }

    private static void ruleWrong() {
        BreadGames x = new BreadGames();
        String before = Checks.portrait(x);
        int[][] wrong = {{0, 11}, {0, -1}, {1, 11}, {1, -1}, {2, 0}, {2, 11}, {3, 4}, {3, -1}, {4, 2},
            {4, -1}, {5, 1}, {-1, 1}};
        for (int[] w : wrong) {
            Checks.due("5: " + w[0] + " " + w[1], x.rule(w[0], w[1]), Checks.BEYOND);
        }
        for (int far : Checks.FAR) {
            Checks.due("5: what " + far, x.rule(far, 1), Checks.BEYOND);
            for (int what = 0; what < 5; what++) {
                Checks.due("5: v " + far, x.rule(what, far), Checks.BEYOND);
            }
        }
        Checks.holds("5: nothing has changed", before.equals(Checks.portrait(x)));
    }

    private static void now() {
        BreadGames x = Checks.city("citizen hunger 7 loaf",
                "fan hunger 6 seat; boy hunger 9; widow hunger 8 seat; claque hunger 0 loaf",
                "loaves 7; seats 4; leads 3; bound 10");
        Checks.due("6: leads", x.now(2), 3);
        Checks.due("6: loaves", x.now(3), 1 + 16);
        Checks.due("6: seats", x.now(4), 2 + 8);
        Checks.due("6: hungry", x.now(5), 1 + 4 + 8);
        Checks.due("6: cost", x.now(6), 29);
        BreadGames y = Checks.city("citizen hunger 9; loaves 0; bound 1");
        Checks.due("6: no riot yet", y.now(1), 0);
        y.weeks(1);
        Checks.due("6: week", y.now(0), 1);
        Checks.due("6: riots", y.now(1), 1);
        y.weeks(2);
        Checks.due("6: weeks", y.now(0), 3);
        Checks.due("6: what 7", y.now(7), Checks.BEYOND);
        Checks.due("6: what -1", y.now(-1), Checks.BEYOND);
        for (int far : Checks.FAR) {
            Checks.due("6: what " + far, y.now(far), Checks.BEYOND);
        }
    }

    private static void nowOfTen() {
        BreadGames x = new BreadGames();
        for (int c = 0; c < 10; c++) {
            x.citizen(6);
            x.change(c, 1, 7);
            x.change(c, 5, 1);
        }
        Checks.due("6: all have a loaf", x.now(3), 1023);
        Checks.due("6: nobody has a seat", x.now(4), 0);
        Checks.due("6: all have 7", x.now(5), 1023);
        x.change(9, 5, 2);
        x.change(9, 1, 6);
        Checks.due("6: the last one's loaf", x.now(3), 511);
        Checks.due("6: the last one's seat", x.now(4), 512);
        Checks.due("6: 6 is not 7", x.now(5), 511);
        x.rule(0, 10);
        x.rule(1, 10);
        Checks.due("6: the dearest week", x.now(6), 50);
        x.rule(0, 0);
        x.rule(1, 0);
        Checks.due("6: the cheapest week", x.now(6), 0);
    }
}
