/** Each call of the face where there is nobody, nothing left of time, and where two findings are due. */
public final class EdgesTest {
    private static final int B = Checks.BEYOND;
    private static final int N = Checks.NONE;
    private static final int S = Checks.STATE;

    public static void main(String[] args) {
        nobodyToAskOf();
        nobodyAtAll();
        theTenth();
        lastWeek();
        firstOfTwoFindings();
        Checks.end("EdgesTest");
    }

    /** No CITIZEN has a number: whoever is asked of is beyond, before all else. */
    private static void nobodyToAskOf() {
        BreadGames x = new BreadGames();
        String before = Checks.portrait(x);
        for (int who : new int[] {0, 1, 9, -1}) {
            String of = " of " + who;
            Checks.due("3" + of, x.of(who, 0), B);
            Checks.due("4" + of, x.change(who, 1, 1), B);
            Checks.due("7" + of, x.wants(who), B);
            Checks.due("8" + of, x.swap(who, 1 - who), B);
            Checks.due("11" + of, x.buy(who, 1 - who, 1), B);
            Checks.due("18" + of, x.next(who), B);
            Checks.due("22" + of, x.colourFor(who, 1), B);
            Checks.due("23" + of, x.kindFor(who, 1), B);
            Checks.due("28" + of, x.eats(who), B);
            if (who >= 0) {
                Checks.due("16" + of, x.ahead(1, 4 + who), B);
                Checks.due("35" + of, x.hold(0, who), B);
            }
        }
        Checks.due("30", x.famine(1), S);
        Checks.holds("nothing has changed", before.equals(Checks.portrait(x)));
        Checks.due("47: all of them", x.status(-1), 4 * 9 + 3 * 2 + 1);
        Checks.due("47: one of them a state", x.status(4), 1);
    }

    /** CITIZEN 9 is the last that there can be; none has the number 10. */
    private static void theTenth() {
        BreadGames x = Checks.city("boy; boy; boy; boy; boy; boy; boy; boy; fan hunger 0 coin 50 loaf; widow seat");
        x.seed(3);
        Checks.due("3: the tenth", x.of(9, 0), 1);
        Checks.due("4: the tenth", x.change(9, 1, 8), 3);
        Checks.due("7: the tenth", x.wants(9), 1);
        Checks.due("8: the tenth", x.swap(9, 8), 1);
        Checks.due("8: the tenth has a loaf", x.now(3), 512);
        x.change(8, 5, 0);
        x.change(9, 5, 2);
        Checks.due("11: of the tenth", x.buy(8, 9, 12), 38);
        Checks.due("16: the tenth", x.ahead(0, 13), 8);
        x.rule(0, 10);
        x.rule(1, 0);
        Checks.due("18: the tenth", x.next(9), 1);
        Checks.due("16: the tenth eats", x.ahead(1, 13), 5);
        Checks.due("22: the tenth", x.colourFor(9, 1), 0);
        Checks.due("23: the tenth", x.kindFor(9, 1), 0);
        Checks.due("28: the tenth", x.eats(9), 1);
        Checks.due("35: the tenth", x.hold(9, 9), 1);
        Checks.due("36: the tenth", x.as(9, 1), 9);
        int[] beyond = {x.of(10, 0), x.change(10, 1, 1), x.wants(10), x.swap(9, 10), x.swap(10, 9), x.buy(8, 10, 1),
            x.buy(10, 8, 1), x.ahead(0, 14), x.next(10), x.colourFor(10, 1), x.kindFor(10, 1), (int) x.eats(10),
            x.hold(9, 10)};
        for (int i = 0; i < beyond.length; i++) {
            Checks.due("no citizen 10, call " + i, beyond[i], B);
        }
        Checks.due("36: the tenth yet", x.as(9, 1), 9);
    }

    private static void nobodyAtAll() {
        BreadGames x = new BreadGames();
        Checks.due("9", x.gates(), 0);
        Checks.due("10", x.changes(), 0);
        Checks.due("12", x.welfare(), 0);
        Checks.due("13", x.most(), 0);
        Checks.due("14", x.price(), N);
        for (int what = 0; what < 4; what++) {
            Checks.due("16: " + what, x.ahead(60, what), 0);
        }
        Checks.due("17", x.riot(), N);
        Checks.due("19", x.loaves(60), 0);
        Checks.due("20", x.cheapest(60), 0);
        Checks.due("21", x.leader(60), 0);
        Checks.due("24", x.stale(60), 0);
        Checks.due("25", x.bound(60), 1);
        Checks.due("26", x.law(3, 60), 0);
        Checks.due("27", x.ways(), 1);
        Checks.due("29", x.busy(0), 1);
        Checks.due("29", x.busy(1), 0);
        Checks.due("15", x.weeks(60), 0);
        Checks.due("46", x.count(0), 60);
    }

    /** At WEEK 999 no week can go; what needs none is answered. */
    private static void lastWeek() {
        BreadGames x = Checks.city("fan hunger 0; widow; bound 10");
        for (int i = 0; i < 16; i++) {
            x.weeks(60);
        }
        x.weeks(39);
        x.sheet(0, 8, 1);
        x.sheet(1, 8, 0);
        x.change(0, 1, 0);
        x.change(0, 2, x.now(2));
        x.change(0, 5, 1);
        x.change(1, 1, 5);
        x.change(1, 5, 2);
        String before = Checks.portrait(x);
        long[] stopped = {x.weeks(1), x.ahead(1, 0), x.riot(), x.next(0), x.loaves(1), x.cheapest(1), x.leader(1),
            x.colourFor(0, 1), x.kindFor(0, 1), x.stale(1), x.bound(1), x.law(0, 1), x.judge(0)};
        for (int i = 0; i < stopped.length; i++) {
            Checks.due("999: call " + i, stopped[i], S);
        }
        Checks.due("47: all of them", x.status(4), stopped.length);
        Checks.due("42: no numbers, no weeks", x.judge(1), 0);
        Checks.due("16: no weeks", x.ahead(0, 5), 5);
        Checks.due("10", x.changes(), 1);
        Checks.due("13", x.most(), 12 + 10);
        Checks.due("27", x.ways(), 4);
        Checks.due("28", x.eats(1), 3);
        Checks.due("29", x.busy(1), 1);
        Checks.due("41", x.tally(1), 4);
        Checks.holds("nothing has changed", before.equals(Checks.portrait(x)));
        Checks.due("9", x.gates(), 1);
        Checks.due("12", x.welfare(), 12 + 10);
        Checks.due("43", x.image(), 1);
        Checks.due("44", x.undo(), 999);
        Checks.due("6", x.now(0), 999);
    }

    /** Findings are told in the order in which they are asked. */
    private static void firstOfTwoFindings() {
        BreadGames x = new BreadGames();
        for (int c = 0; c < 10; c++) {
            x.citizen(6);
        }
        for (int i = 0; i < 30; i++) {
            x.feed(0, 4);
        }
        for (int i = 0; i < 16; i++) {
            x.weeks(60);
        }
        x.weeks(39);
        int m = Checks.MISSING;
        Checks.due("2: beyond, full", x.citizen(7), B);
        Checks.due("2: full", x.citizen(6), Checks.FULL);
        Checks.due("8: beyond, state", x.swap(3, 3), B);
        Checks.due("11: beyond, state", x.buy(0, 1, 0), B);
        Checks.due("15: beyond, state", x.weeks(61), B);
        Checks.due("16: beyond, state", x.ahead(61, 0), B);
        Checks.due("16: beyond, state", x.ahead(60, 14), B);
        Checks.due("16: beyond, state", x.ahead(60, -1), B);
        Checks.due("17: state, none", x.riot(), S);
        Checks.due("18: beyond, state", x.next(10), B);
        Checks.due("19: beyond, state", x.loaves(61), B);
        Checks.due("20: beyond, state", x.cheapest(0), B);
        Checks.due("21: beyond, state", x.leader(61), B);
        Checks.due("22: beyond, state", x.colourFor(10, 60), B);
        Checks.due("22: beyond, state", x.colourFor(9, 61), B);
        Checks.due("23: beyond, state", x.kindFor(10, 60), B);
        Checks.due("23: beyond, state", x.kindFor(9, 61), B);
        Checks.due("24: beyond, state", x.stale(61), B);
        Checks.due("25: beyond, state", x.bound(61), B);
        Checks.due("26: beyond, state", x.law(7, 60), B);
        Checks.due("26: beyond, state", x.law(6, 61), B);
        Checks.due("32: beyond, full", x.feed(0, 0), B);
        Checks.due("32: beyond, full", x.feed(0, 5), B);
        Checks.due("32: full", x.feed(0, 1), Checks.FULL);
        Checks.due("36: beyond, missing", x.as(0, 7), B);
        Checks.due("37: other bits, size", x.sheet(0, 7, -1), B);
        Checks.due("37: no such sheet, size", x.sheet(4, 8, -1), B);
        Checks.due("38: no such sheet, no such number", x.write(4, -1, 0), B);
        Checks.due("38: missing, no such number", x.write(0, -1, 0), m);
        Checks.due("39: no such sheet, missing", x.copy(0, 0, 4, 0, -1), B);
        Checks.due("39: no such sheet, missing", x.copy(-1, 0, 0, 0, -1), B);
        Checks.due("39: missing, below 0", x.copy(0, 0, 1, 0, -1), m);
        x.sheet(0, 8, 40);
        Checks.due("39: missing, kind", x.copy(0, 0, 1, 0, 1), m);
        x.sheet(1, 16, 40);
        Checks.due("39: kind, below 0", x.copy(0, -1, 1, -1, -1), Checks.KIND);
        Checks.due("39: kind, too many", x.copy(0, 0, 1, 0, 41), Checks.KIND);
        Checks.due("42: missing, state", x.judge(2), m);
        Checks.due("42: beyond, state", x.judge(4), B);
        Checks.due("42: state, the first that isn't", x.judge(0), S);
    }
}
