/** Promises 7 to 14. Where nothing else is said COLOUR 0 leads. */
public final class GatesTest {
    public static void main(String[] args) {
        wants();
        wantsOneMore();
        swap();
        swapWrong();
        gatesByLoaf();
        gatesBySeat();
        changes();
        buy();
        buyBeyond();
        buyState();
        welfareAndMost();
        price();
        Checks.end("GatesTest");
    }

    private static void wants() {
        BreadGames x = Checks.city("citizen hunger 2 loaf; citizen hunger 3 loaf; citizen hunger 3 seat;"
                + "citizen hunger 4 seat", "seller loaf; boy seat; widow hunger 0 seat; citizen");
        int[] due = {1, 0, 0, 1, 0, 0, 0, Checks.STATE};
        for (int c = 0; c < due.length; c++) {
            Checks.due("7: " + c, x.wants(c), due[c]);
        }
        x.change(6, 1, 1);
        Checks.due("7: hungrier", x.wants(6), 1);
        Checks.due("7: citizen 8", x.wants(8), Checks.BEYOND);
        Checks.due("7: citizen -1", x.wants(-1), Checks.BEYOND);
        for (int far : Checks.FAR) {
            Checks.due("7: citizen " + far, x.wants(far), Checks.BEYOND);
        }
    }

    /** "More" is one more already, and is not as much. */
    private static void wantsOneMore() {
        String[] cities = {"fan hunger 0 colour 1 loaf", "citizen hunger 1 colour 1 loaf; stale",
            "citizen hunger 2 colour 1 loaf; stale", "citizen hunger 3 colour 1 seat; stale",
            "citizen hunger 2 colour 1 seat; stale", "widow hunger 0 loaf", "widow hunger 0 seat",
            "widow hunger 1 seat; stale", "claque hunger 4 colour 1 loaf; stale",
            "claque hunger 5 colour 1 loaf; stale", "claque hunger 6 colour 1 seat; stale",
            "claque hunger 5 colour 1 seat; stale"};
        int[] due = {1, 1, 0, 1, 0, 0, 0, 1, 1, 0, 1, 0};
        for (int i = 0; i < cities.length; i++) {
            Checks.due("7: " + cities[i], Checks.city(cities[i]).wants(0), due[i]);
        }
        BreadGames x = Checks.city("fan hunger 0 colour 1 loaf; widow hunger 1 seat; stale");
        Checks.due("10: one more on either side", x.changes(), 1);
        Checks.due("8: one more on either side", x.swap(0, 1), 1);
        BreadGames y = Checks.city("fan hunger 0 colour 1 loaf; widow hunger 0 seat");
        Checks.due("8: as much to the other", y.swap(0, 1), Checks.STATE);
        Checks.due("9: as much to the other", y.gates(), 0);
        BreadGames z = Checks.city("widow hunger 0 loaf; widow hunger 1 seat");
        Checks.due("8: as much to the one", z.swap(0, 1), Checks.STATE);
        Checks.due("9: as much to the one", z.gates(), 0);
    }

    private static void swap() {
        BreadGames x = Checks.city("citizen hunger 0 loaf; citizen hunger 9 seat; citizen hunger 0 loaf;"
                + "widow hunger 9 seat");
        Checks.due("8: loaf first", x.swap(0, 3), 1);
        Checks.due("8: now a seat", x.of(0, 5), 2);
        Checks.due("8: now a loaf", x.of(3, 5), 1);
        Checks.due("8: seat first", x.swap(1, 2), 1);
        Checks.due("8: now a loaf", x.of(1, 5), 1);
        Checks.due("8: now a seat", x.of(2, 5), 2);
        Checks.due("8: not again", x.swap(1, 2), Checks.STATE);
    }

    private static void swapWrong() {
        BreadGames x = Checks.city("citizen hunger 0 loaf; citizen hunger 0 seat; citizen hunger 9 loaf;"
                + "citizen hunger 9 seat", "citizen hunger 0; citizen hunger 0 loaf; citizen hunger 3 loaf");
        String before = Checks.portrait(x);
        int[][] state = {{0, 1}, {1, 0}, {2, 3}, {3, 2}, {0, 4}, {4, 3}, {0, 5}, {2, 1}, {6, 3}};
        for (int[] w : state) {
            Checks.due("8: " + w[0] + " " + w[1], x.swap(w[0], w[1]), Checks.STATE);
        }
        int[][] beyond = {{0, 0}, {4, 4}, {0, 7}, {7, 0}, {-1, 3}, {0, -1}, {-1, -1}};
        for (int[] w : beyond) {
            Checks.due("8: " + w[0] + " " + w[1], x.swap(w[0], w[1]), Checks.BEYOND);
        }
        for (int far : Checks.FAR) {
            Checks.due("8: one " + far, x.swap(far, 3), Checks.BEYOND);
            Checks.due("8: other " + far, x.swap(0, far), Checks.BEYOND);
        }
        Checks.holds("8: nothing has changed", before.equals(Checks.portrait(x)));
    }

    private static void gatesByLoaf() {
        BreadGames x = Checks.city("citizen hunger 3 loaf; citizen hunger 0 loaf; citizen hunger 0 loaf;"
                + "widow hunger 5 seat; citizen");
        Checks.due("9: one change", x.gates(), 1);
        Checks.due("9: the first that wants a seat", x.now(4), 2);
        Checks.due("9: loaves", x.now(3), 1 + 4 + 8);
        Checks.due("9: no more", x.gates(), 0);
    }

    private static void gatesBySeat() {
        BreadGames x = Checks.city("widow hunger 0 seat; widow hunger 5 seat; widow hunger 5 seat",
                "widow hunger 5 seat; fan hunger 0 loaf; citizen hunger 0 loaf");
        Checks.due("9: two changes", x.gates(), 2);
        Checks.due("9: the first that want a loaf", x.now(3), 2 + 4);
        Checks.due("9: seats", x.now(4), 1 + 8 + 16 + 32);
        Checks.due("9: nobody", new BreadGames().gates(), 0);
        BreadGames all = Checks.city("fan hunger 0 loaf; widow seat; fan hunger 0 loaf; widow seat",
                "fan hunger 0 loaf; widow seat; fan hunger 0 loaf; widow seat; fan hunger 0 loaf; widow seat");
        Checks.due("9: five changes", all.gates(), 5);
        Checks.due("9: widows eat", all.now(3), 0b1010101010);
    }

    private static void changes() {
        BreadGames x = Checks.city("fan hunger 0 loaf; widow seat; fan hunger 0 loaf; widow seat; widow loaf");
        String before = Checks.portrait(x);
        Checks.due("10: two", x.changes(), 2);
        Checks.holds("10: nothing has changed", before.equals(Checks.portrait(x)));
        Checks.due("10: as many", x.gates(), 2);
        Checks.due("10: none now", x.changes(), 0);
        x.change(0, 5, 1);
        Checks.due("10: a fan wants a seat, but nobody gives one", x.changes(), 0);
        x.change(1, 5, 2);
        Checks.due("10: as it is by now", x.changes(), 1);
        x.change(1, 5, 0);
        Checks.due("10: who has none changes nothing", x.changes(), 0);
    }

    private static void buy() {
        BreadGames x = Checks.city("citizen hunger 5 coin 30; fan hunger 2 coin 40 loaf; seller coin 9 seat;"
                + "fan hunger 0 coin 50");
        Checks.due("11: a loaf", x.buy(0, 1, 10), 20);
        Checks.due("11: has it", x.of(0, 5), 1);
        Checks.due("11: has none", x.of(1, 5), 0);
        Checks.due("11: got coins", x.of(1, 3), 50);
        Checks.due("11: a seat", x.buy(3, 2, 4), 46);
        Checks.due("11: has it", x.of(3, 5), 2);
        Checks.due("11: has none", x.of(2, 5), 0);
        Checks.due("11: got coins", x.of(2, 3), 13);
        BreadGames all = Checks.city("fan colour 0 coin 12; widow coin 9987 seat");
        Checks.due("11: all coins", all.buy(0, 1, 12), 0);
        Checks.due("11: up to 9999", all.of(1, 3), 9999);
        BreadGames one = Checks.city("seller; widow seat");
        Checks.due("11: for one coin", one.buy(0, 1, 1), 9);
    }

    private static void buyBeyond() {
        BreadGames x = Checks.city("citizen hunger 5 coin 30; fan hunger 2 coin 40 loaf");
        String before = Checks.portrait(x);
        int[][] beyond = {{0, 0, 5}, {2, 1, 5}, {-1, 1, 5}, {0, 2, 5}, {0, -1, 5}, {0, 1, 0}, {0, 1, 100},
            {0, 1, -1}, {1, 1, 5}};
        for (int[] w : beyond) {
            Checks.due("11: " + w[0] + " " + w[1] + " " + w[2], x.buy(w[0], w[1], w[2]), Checks.BEYOND);
        }
        for (int far : Checks.FAR) {
            Checks.due("11: citizen " + far, x.buy(far, 1, 5), Checks.BEYOND);
            Checks.due("11: from " + far, x.buy(0, far, 5), Checks.BEYOND);
            Checks.due("11: v " + far, x.buy(0, 1, far), Checks.BEYOND);
        }
        Checks.due("11: 99 is no beyond", x.buy(0, 1, 99), Checks.STATE);
        Checks.due("11: beyond before state: 0", x.buy(1, 0, 0), Checks.BEYOND);
        Checks.due("11: beyond before state: 100", x.buy(1, 0, 100), Checks.BEYOND);
        Checks.due("11: beyond before state: the same", x.buy(1, 1, 1), Checks.BEYOND);
        Checks.holds("11: nothing has changed", before.equals(Checks.portrait(x)));
    }

    private static void buyState() {
        String[] cities = {
            "citizen hunger 5 coin 30 seat; fan hunger 2 loaf",
            "citizen hunger 5 coin 30; fan hunger 2",
            "citizen hunger 5 coin 4; fan hunger 2 loaf",
            "citizen hunger 5 coin 30; fan hunger 2 coin 9995 loaf",
            "citizen hunger 5 coin 30; widow hunger 3 loaf",
            "widow hunger 2 coin 30; fan hunger 2 loaf",
        };
        int[] v = {5, 5, 5, 5, 6, 5};
        for (int i = 0; i < cities.length; i++) {
            BreadGames x = Checks.city(cities[i]);
            String before = Checks.portrait(x);
            Checks.due("11: " + cities[i], x.buy(0, 1, v[i]), Checks.STATE);
            Checks.holds("11: nothing has changed", before.equals(Checks.portrait(x)));
        }
        BreadGames edge = Checks.city("widow hunger 3 coin 6; widow hunger 2 coin 9993 loaf; stale; fresh");
        Checks.due("11: worth as much to that one", edge.buy(0, 1, 4), Checks.STATE);
        Checks.due("11: just as much as to itself", edge.buy(0, 1, 6), 0);
    }

    private static void welfareAndMost() {
        BreadGames x = Checks.city("citizen hunger 0 seat; widow hunger 1 loaf; fan hunger 1 loaf; hungry");
        Checks.due("12: welfare", x.welfare(), 6 + 2 + 2);
        Checks.due("13: most", x.most(), 2 + 12);
        BreadGames y = Checks.city("seller loaf; boy loaf; seller; boy seat");
        Checks.due("12: sellers", y.welfare(), 3 + 4 + 4);
        Checks.due("13: sellers", y.most(), 11);
        BreadGames loss = Checks.city("fan hunger 0 loaf; fan hunger 1 loaf; hungry hunger 9");
        Checks.due("12: loss", loss.welfare(), 2);
        Checks.due("13: the loaves must lie somewhere", loss.most(), 2);
        BreadGames widows = Checks.city("widow hunger 2 loaf; widow hunger 4 seat; widow hunger 1 seat");
        Checks.due("13: one loaf to the hungriest", widows.most(), 8);
        widows.change(2, 5, 1);
        Checks.due("13: two loaves to the hungriest", widows.most(), 8 + 4);
        BreadGames idle = Checks.city("hungry hunger 9; widow hunger 1 seat; citizen hunger 0 loaf; boy");
        Checks.due("13: nothing goes to who has none", idle.most(), 2 + 6);
        BreadGames seats = Checks.city("widow seat; hungry seat; citizen seat");
        Checks.due("13: no loaf at all", seats.most(), 6);
        Checks.due("12: nobody", new BreadGames().welfare(), 0);
        Checks.due("13: nobody", new BreadGames().most(), 0);
    }

    private static void price() {
        BreadGames x = Checks.city("citizen hunger 0 loaf; widow hunger 1 loaf; fan hunger 1 seat; hungry");
        Checks.due("14: above the second gap", x.price(), 7);
        x.change(2, 5, 1);
        Checks.due("14: no seat", x.price(), Checks.NONE);
        x.change(0, 5, 2);
        x.change(1, 5, 2);
        x.change(2, 5, 1);
        Checks.due("14: one loaf", x.price(), 0);
        x.change(2, 5, 2);
        Checks.due("14: no loaf", x.price(), 0);
        BreadGames fans = Checks.city("fan hunger 0 loaf; fan hunger 0 seat");
        Checks.due("14: dearest", fans.price(), 13);
        BreadGames one = Checks.city("citizen hunger 2 loaf; widow hunger 0 seat");
        Checks.due("14: as much is not more", one.price(), 1);
        one.change(1, 1, 1);
        Checks.due("14: more at 0", one.price(), 0);
        one.change(1, 5, 0);
        Checks.due("14: a loaf, but no seat", one.price(), Checks.NONE);
        one.change(0, 5, 0);
        Checks.due("14: nobody has a token", one.price(), Checks.NONE);
        BreadGames idle = Checks.city("hungry hunger 9; citizen hunger 2 loaf; fan hunger 0 seat");
        Checks.due("14: who has none does not count", idle.price(), 3);
        Checks.due("14: nobody", new BreadGames().price(), Checks.NONE);
    }
}
