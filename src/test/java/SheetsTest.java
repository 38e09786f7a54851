/** Promises 35 to 42. */
public final class SheetsTest {
    public static void main(String[] args) {
        hold();
        holdOfAll();
        as();
        sheet();
        sheetWrong();
        write();
        writeAtTheSign();
        copy();
        copyWrong();
        load();
        loadEnds();
        tally();
        tallyOfEachNumber();
        judge();
        judgeOfForty();
        judgeBySign();
        Checks.end("SheetsTest");
    }

    private static void hold() {
        BreadGames x = Checks.city("fan; boy");
        Checks.due("35: first", x.hold(0, 1), 1);
        Checks.due("35: last", x.hold(9, 0), 1);
        Checks.due("35: two hold", x.count(7), 2);
        Checks.due("35: it", x.as(0, 6), 1);
        Checks.due("35: nothing", x.hold(0, -1), 1);
        Checks.due("35: holds nothing", x.as(0, 6), Checks.MISSING);
        Checks.due("35: one holds", x.count(7), 1);
        int[][] wrong = {{10, 0}, {-1, 0}, {1, 2}, {1, -2}, {-1, -1}, {10, -1}};
        for (int[] w : wrong) {
            Checks.due("35: " + w[0] + " " + w[1], x.hold(w[0], w[1]), Checks.BEYOND);
        }
        for (int far : Checks.FAR) {
            Checks.due("35: spot " + far, x.hold(far, 0), Checks.BEYOND);
            Checks.due("35: citizen " + far, x.hold(0, far), Checks.BEYOND);
        }
        Checks.due("35: one holds yet", x.count(7), 1);
    }

    private static void holdOfAll() {
        BreadGames x = new BreadGames();
        Checks.due("35: no citizen 0", x.hold(0, 0), Checks.BEYOND);
        Checks.due("35: nothing holds nobody", x.hold(9, -1), 1);
        for (int i = 0; i < 10; i++) {
            x.citizen(i % 7);
        }
        for (int i = 0; i < 10; i++) {
            Checks.due("35: spot " + i, x.hold(i, 9 - i), 1);
            Checks.due("46: spots that hold something", x.count(7), i + 1);
        }
        Checks.due("35: citizen 10", x.hold(5, 10), Checks.BEYOND);
        Checks.due("35: citizen -2", x.hold(6, -2), Checks.BEYOND);
        for (int i = 0; i < 10; i++) {
            Checks.due("36: spot " + i + " holds what it held", x.as(i, 0), 9 - i);
        }
        Checks.due("35: two spots may hold one", x.hold(0, 0), 1);
        Checks.due("36: the one", x.as(0, 0), x.as(9, 0));
        for (int i = 0; i < 10; i++) {
            Checks.due("35: nothing at " + i, x.hold(i, -1), 1);
            Checks.due("36: nothing at " + i, x.as(i, 0), Checks.MISSING);
            Checks.due("36: beyond before missing at " + i, x.as(i, 7), Checks.BEYOND);
        }
        Checks.due("46: none holds anything", x.count(7), 0);
    }

    private static void as() {
        boolean[][] under = new boolean[7][7];
        for (int kind = 0; kind < 7; kind++) {
            under[kind][kind] = true;
            under[kind][0] = true;
        }
        under[3][2] = true;
        under[4][1] = true;
        under[6][5] = true;
        BreadGames x = new BreadGames();
        for (int kind = 0; kind < 7; kind++) {
            x.citizen(kind);
            x.hold(kind + 2, kind);
        }
        for (int kind = 0; kind < 7; kind++) {
            for (int top = 0; top < 7; top++) {
                Checks.due("36: " + kind + " as " + top, x.as(kind + 2, top),
                        under[kind][top] ? kind : Checks.KIND);
            }
        }
        Checks.due("36: holds nothing", x.as(0, 0), Checks.MISSING);
        int[][] wrong = {{10, 0}, {-1, 0}, {2, 7}, {2, -1}, {0, 7}};
        for (int[] w : wrong) {
            Checks.due("36: " + w[0] + " " + w[1], x.as(w[0], w[1]), Checks.BEYOND);
        }
        for (int far : Checks.FAR) {
            Checks.due("36: spot " + far, x.as(far, 0), Checks.BEYOND);
            Checks.due("36: kind " + far, x.as(2, far), Checks.BEYOND);
        }
        x.change(0, 0, 4);
        Checks.due("36: of another kind now", x.as(2, 1), 0);
    }

    private static void sheet() {
        BreadGames x = new BreadGames();
        for (int bits : new int[] {8, 16, 32}) {
            Checks.due("37: n 40", x.sheet(0, bits, 40), 40);
            Checks.due("37: the last", x.write(0, 39, 1), 1);
            Checks.due("37: n 0", x.sheet(3, bits, 0), 0);
            Checks.due("37: has none, but is there", x.write(3, 0, 1), Checks.BEYOND);
        }
        Checks.due("37: missing", x.sheet(0, 0, 7), 0);
        Checks.due("37: missing", x.write(0, 0, 1), Checks.MISSING);
        Checks.due("37: missing yet", x.sheet(1, 0, 40), 0);
        BreadGames y = Checks.city("fan hunger 5; fan hunger 5; fan hunger 5");
        y.sheet(2, 32, 3);
        y.write(2, 0, 9);
        y.write(2, 1, 9);
        Checks.due("37: less numbers", y.sheet(2, 8, 2), 2);
        Checks.due("37: two", y.load(2), 2);
        Checks.due("37: all 0", y.count(2), 5);
    }

    private static void sheetWrong() {
        BreadGames x = new BreadGames();
        x.sheet(1, 8, 3);
        int[][] beyond = {{4, 8, 3}, {-1, 8, 3}, {1, 7, 3}, {1, 64, 3}, {1, 1, 3}, {1, -8, 3}, {1, 24, 3},
            {1, 8, 41}, {1, 0, 41}, {4, 8, -1}, {1, 9, -1}, {1, 9, 41}};
        for (int[] w : beyond) {
            Checks.due("37: " + w[0] + " " + w[1] + " " + w[2], x.sheet(w[0], w[1], w[2]), Checks.BEYOND);
        }
        for (int far : Checks.FAR) {
            Checks.due("37: s " + far, x.sheet(far, 8, 3), Checks.BEYOND);
            Checks.due("37: bits " + far, x.sheet(1, far, 3), Checks.BEYOND);
            Checks.due("37: n " + far, x.sheet(1, 8, far), far < 0 ? Checks.SIZE : Checks.BEYOND);
        }
        Checks.due("37: n -1", x.sheet(1, 8, -1), Checks.SIZE);
        Checks.due("37: n -1 of 0 bits", x.sheet(1, 0, -1), Checks.SIZE);
        Checks.due("37: there yet", x.write(1, 2, 1), 1);
    }

    /** A sheet's number is told by whether it is a hunger, or by the riots that it would be. */
    private static void write() {
        BreadGames x = Checks.city("fan hunger 5");
        int[][] told = {{8, 256, 1, 0}, {8, 265, 1, 9}, {8, 255, 0, 0}, {8, 128, 0, 0}, {8, -256, 1, 0},
            {16, 65536, 1, 0}, {16, 65541, 1, 5}, {16, 65535, 0, 0}, {16, 256, 0, 0}, {16, -65530, 1, 6},
            {32, 65536, 0, 0}, {32, 256, 0, 0}, {32, 9, 1, 9}, {32, -1, 0, 0}, {32, 10, 0, 0}};
        for (int[] t : told) {
            x.change(0, 1, 5);
            x.sheet(0, t[0], 1);
            Checks.due("38: one", x.write(0, 0, t[1]), 1);
            Checks.due("38: " + t[0] + " bits, " + t[1], x.load(0), t[2]);
            Checks.due("38: " + t[0] + " bits, " + t[1], x.of(0, 1), t[2] == 1 ? t[3] : 5);
        }
        x.sheet(0, 8, 3);
        int[][] beyond = {{4, 0}, {-1, 0}, {0, 3}, {0, -1}, {0, 40}};
        for (int[] w : beyond) {
            Checks.due("38: " + w[0] + " " + w[1], x.write(w[0], w[1], 1), Checks.BEYOND);
        }
        for (int far : Checks.FAR) {
            Checks.due("38: s " + far, x.write(far, 0, 1), Checks.BEYOND);
            Checks.due("38: i " + far, x.write(0, far, 1), Checks.BEYOND);
        }
        Checks.due("38: missing", x.write(1, 0, 1), Checks.MISSING);
        Checks.due("38: missing before beyond", x.write(1, 40, 1), Checks.MISSING);
    }

    /** What doesn't fit is cut to the lowest bits, and they are told with their sign. */
    private static void writeAtTheSign() {
        BreadGames x = Checks.city("fan hunger 5");
        int[][] zeros = {{8, Integer.MIN_VALUE}, {8, 256}, {8, 1 << 30}, {16, Integer.MIN_VALUE}, {16, 65536},
            {16, 1 << 24}, {32, 0}};
        for (int[] z : zeros) {
            x.sheet(0, z[0], 1);
            x.write(0, 0, z[1]);
            Checks.due("38: " + z[1] + " is 0 of " + z[0] + " bits", x.judge(0), 0);
        }
        int[][] others = {{8, 1}, {8, 255}, {8, 128}, {8, 127}, {8, Integer.MAX_VALUE}, {16, 256}, {16, 32768},
            {16, 65535}, {16, 32767}, {16, Integer.MAX_VALUE}, {32, 256}, {32, 65536}, {32, 1 << 24},
            {32, Integer.MIN_VALUE}, {32, Integer.MAX_VALUE}};
        for (int[] o : others) {
            x.sheet(0, o[0], 1);
            x.write(0, 0, o[1]);
            Checks.due("38: " + o[1] + " isn't 0 of " + o[0] + " bits", x.judge(0), 1);
            x.change(0, 1, 5);
            Checks.due("40: nor a hunger", x.load(0), o[1] == 1 ? 1 : 0);
        }
        x.sheet(0, 32, 2);
        x.write(0, 0, 4);
        Checks.due("38: number 2 of two", x.write(0, 2, 9), Checks.BEYOND);
        Checks.due("38: number -1", x.write(0, -1, 9), Checks.BEYOND);
        x.load(0);
        Checks.due("38: the first is what it was", x.of(0, 1), 4);
        x.sheet(0, 0, 0);
        Checks.due("38: no such sheet before missing", x.write(4, 0, 9), Checks.BEYOND);
        Checks.due("38: missing now", x.write(0, 0, 9), Checks.MISSING);
    }

    private static void copy() {
        BreadGames x = rowed();
        Checks.due("39: to another one", x.copy(0, 1, 1, 2, 3), 3);
        shows(x, 1, 0, 0, 2, 3, 4);
        shows(x, 0, 1, 2, 3, 4, 5);
        Checks.due("39: forward", x.copy(0, 0, 0, 1, 4), 4);
        shows(x, 0, 1, 1, 2, 3, 4);
        x = rowed();
        Checks.due("39: back", x.copy(0, 1, 0, 0, 4), 4);
        shows(x, 0, 2, 3, 4, 5, 5);
        Checks.due("39: none", x.copy(0, 5, 1, 5, 0), 0);
        Checks.due("39: all", x.copy(0, 0, 1, 0, 5), 5);
        shows(x, 1, 2, 3, 4, 5, 5);
    }

    private static BreadGames rowed() {
        BreadGames x = Checks.city("boy; boy; boy; boy; boy");
        x.sheet(0, 16, 5);
        x.sheet(1, 16, 5);
        for (int i = 0; i < 5; i++) {
            x.write(0, i, i + 1);
        }
        return x;
    }

    private static void shows(BreadGames x, int s, int... due) {
        Checks.due("39: loads", x.load(s), due.length);
        for (int i = 0; i < due.length; i++) {
            Checks.due("39: number " + i + " of sheet " + s, x.of(i, 1), due[i]);
        }
    }

    private static void copyWrong() {
        BreadGames x = rowed();
        x.sheet(2, 8, 5);
        int top = Integer.MAX_VALUE;
        int[][] beyond = {{4, 0, 0, 0, 1}, {0, 0, 4, 0, 1}, {-1, 0, 0, 0, 1}, {0, 0, -1, 0, 1}, {3, 0, 4, 0, 1},
            {0, 0, 1, 0, 6}, {0, 1, 1, 0, 5}, {0, 0, 1, 1, 5}, {0, 6, 1, 0, 0}, {0, 0, 1, 6, 0},
            {0, -1, 1, 0, 1}, {0, 0, 1, -1, 1}, {0, 0, 1, 0, -1}, {0, 5, 1, 0, 1}, {0, 0, 1, 5, 1},
            {0, top, 1, 0, 1}, {0, 0, 1, top, 1}, {0, 1, 1, 1, top}, {0, top, 1, top, top},
            {top, 0, 0, 0, 0}, {0, 0, Integer.MIN_VALUE, 0, 0}, {0, Integer.MIN_VALUE, 1, 0, 1},
            {0, 0, 1, 0, Integer.MIN_VALUE}, {0, 6, 1, 0, -1}};
        for (int[] w : beyond) {
            Checks.due("39: " + java.util.Arrays.toString(w), x.copy(w[0], w[1], w[2], w[3], w[4]), Checks.BEYOND);
        }
        Checks.due("39: the one is missing", x.copy(3, 0, 0, 0, 1), Checks.MISSING);
        Checks.due("39: the other is missing", x.copy(0, 0, 3, 0, 1), Checks.MISSING);
        Checks.due("39: missing before kind and beyond", x.copy(3, 0, 2, 9, -1), Checks.MISSING);
        Checks.due("39: other bits", x.copy(0, 0, 2, 0, 1), Checks.KIND);
        Checks.due("39: kind before beyond", x.copy(2, 9, 0, 0, 9), Checks.KIND);
        shows(x, 0, 1, 2, 3, 4, 5);
        shows(x, 1, 0, 0, 0, 0, 0);
    }

    private static void load() {
        BreadGames x = Checks.city("boy; boy; boy");
        x.sheet(0, 32, 5);
        x.write(0, 0, 9);
        x.write(0, 2, 7);
        Checks.due("40: for three", x.load(0), 3);
        Checks.due("40: hunger", 100 * x.of(0, 1) + 10 * x.of(1, 1) + x.of(2, 1), 907);
        x.write(0, 0, 1);
        x.write(0, 1, 10);
        Checks.due("40: ends at 10", x.load(0), 1);
        Checks.due("40: the first came", x.of(0, 1), 1);
        Checks.due("40: the third didn't", x.of(2, 1), 7);
        x.write(0, 1, -1);
        Checks.due("40: ends at -1", x.load(0), 1);
        x.sheet(1, 8, 2);
        Checks.due("40: two alone", x.load(1), 2);
        Checks.due("40: the third has its own", x.of(2, 1), 7);
        Checks.due("40: nobody", emptySheet().load(0), 0);
        Checks.due("40: s 4", x.load(4), Checks.BEYOND);
        Checks.due("40: s -1", x.load(-1), Checks.BEYOND);
        Checks.due("40: missing", x.load(2), Checks.MISSING);
    }

    private static void loadEnds() {
        BreadGames x = Checks.city("boy; boy");
        x.sheet(0, 8, 0);
        Checks.due("40: no numbers", x.load(0), 0);
        Checks.due("40: so nothing comes", x.count(2), 6);
        x.sheet(0, 8, 40);
        Checks.due("40: 40 numbers for two", x.load(0), 2);
        Checks.due("40: both 0", x.count(2), 0);
        int[] bad = {10, -1, 127, -128};
        for (int v : bad) {
            x.write(0, 0, v);
            x.write(0, 1, 9);
            Checks.due("40: ends at the first, " + v, x.load(0), 0);
            Checks.due("40: both 0 yet, " + v, x.count(2), 0);
        }
        x.write(0, 0, 9);
        x.write(0, 1, 10);
        Checks.due("40: ends at the last", x.load(0), 1);
        Checks.due("40: the first one's alone", x.count(2), 9);
        x.write(0, 1, 0);
        x.write(0, 2, -1);
        Checks.due("40: what is for nobody is not asked", x.load(0), 2);
        BreadGames ten = Checks.city("boy; boy; boy; boy; boy; boy; boy; boy; boy; boy");
        ten.sheet(3, 32, 10);
        ten.write(3, 9, 9);
        Checks.due("40: for ten", ten.load(3), 10);
        Checks.due("40: the tenth", ten.of(9, 1), 9);
    }

    private static BreadGames emptySheet() {
        BreadGames x = new BreadGames();
        x.sheet(0, 8, 3);
        return x;
    }

    private static void tally() {
        BreadGames x = Checks.city("widow hunger 6; fan hunger 0; boy; loaves 1; seats 1");
        x.sheet(0, 8, 3);
        Checks.due("41: nobody has none", x.tally(0), 0);
        x.write(0, 0, 1);
        x.write(0, 1, 2);
        Checks.due("41: both ways end so", x.tally(0), 2);
        x.write(0, 2, 1);
        Checks.due("41: the boy has none", x.tally(0), 0);
        x.sheet(0, 8, 0);
        Checks.due("41: nothing told", x.tally(0), 2);
        x.sheet(0, 16, 40);
        x.write(0, 0, 1);
        x.write(0, 1, 2);
        x.write(0, 3, 77);
        Checks.due("41: as far as there are both", x.tally(0), 2);
        Checks.due("41: nobody", emptySheet().tally(0), 1);
        Checks.due("41: s 4", x.tally(4), Checks.BEYOND);
        Checks.due("41: s -1", x.tally(-1), Checks.BEYOND);
        Checks.due("41: missing", x.tally(1), Checks.MISSING);
        Checks.due("41: two beyond", x.status(0), 2);
        Checks.due("41: one missing", x.status(5), 1);
    }

    private static void tallyOfEachNumber() {
        BreadGames x = Checks.city("boy loaf; boy seat; boy seat; loaves 1; seats 1");
        x.sheet(0, 8, 3);
        int[] ends = {1, 2, 0};
        for (int at = 0; at < 3; at++) {
            for (int v = -1; v <= 3; v++) {
                for (int i = 0; i < 3; i++) {
                    x.write(0, i, i == at ? v : ends[i]);
                }
                Checks.due("41: number " + at + " is " + v, x.tally(0), v == ends[at] ? 1 : 0);
            }
        }
        Checks.due("41: tokens are what they were", x.now(3), 1);
        Checks.read(x, "loaves 0; seats 0");
        x.sheet(0, 8, 3);
        Checks.due("41: nobody has any", x.tally(0), 1);
        x.sheet(0, 8, 40);
        Checks.due("41: 37 too many", x.tally(0), 1);
        x.write(0, 0, 1);
        Checks.due("41: no loaf for the first", x.tally(0), 0);
    }

    private static void judge() {
        BreadGames x = Checks.city("citizen hunger 6; loaves 0; seats 0; bound 1");
        x.weeks(1);
        x.sheet(0, 8, 4);
        int[] riots = {1, 2, 2, 3};
        for (int i = 0; i < 4; i++) {
            x.write(0, i, riots[i]);
        }
        String before = Checks.portrait(x);
        Checks.due("42: all are, in all", x.judge(0), 0);
        for (int i = 3; i >= 0; i--) {
            x.write(0, i, 9);
            Checks.due("42: the first that isn't", x.judge(0), 1 + i);
        }
        Checks.holds("42: nothing has changed", before.equals(Checks.portrait(x)));
        x.sheet(1, 8, 0);
        Checks.due("42: no numbers", x.judge(1), 0);
        Checks.due("42: s 4", x.judge(4), Checks.BEYOND);
        Checks.due("42: s -1", x.judge(-1), Checks.BEYOND);
        Checks.due("42: missing", x.judge(2), Checks.MISSING);
        for (int i = 0; i < 16; i++) {
            x.weeks(60);
        }
        x.weeks(34);
        Checks.due("42: week 995 and 4", x.judge(0), 1);
        x.weeks(1);
        Checks.due("42: week 996 and 4", x.judge(0), Checks.STATE);
        Checks.due("42: missing before state", x.judge(2), Checks.MISSING);
        x.weeks(3);
        Checks.due("42: week 999 and none", x.judge(1), 0);
    }

    private static void judgeOfForty() {
        BreadGames x = Checks.city("citizen hunger 6; loaves 0; seats 0; bound 1");
        x.sheet(0, 16, 40);
        for (int i = 0; i < 40; i++) {
            x.write(0, i, 1 + i / 2);
        }
        Checks.due("42: forty", x.judge(0), 0);
        x.write(0, 39, 21);
        Checks.due("42: the last isn't", x.judge(0), 40);
        x.write(0, 0, 0);
        Checks.due("42: the first isn't, either", x.judge(0), 1);
        for (int i = 0; i < 15; i++) {
            x.weeks(60);
        }
        x.weeks(59);
        Checks.due("42: week 959", x.judge(0), 1);
        x.weeks(1);
        Checks.due("42: week 960, though the first isn't", x.judge(0), Checks.STATE);
        x.sheet(0, 16, 39);
        Checks.due("42: 39 from 960 on", x.judge(0), 1);
        Checks.due("42: week is as it was", x.now(0), 960);
    }

    /** There are more riots than 8 bits tell; their sign makes other numbers of them. */
    private static void judgeBySign() {
        BreadGames x = Checks.city("citizen hunger 6; loaves 0; seats 0; bound 1");
        for (int i = 0; i < 4; i++) {
            x.weeks(60);
        }
        x.weeks(13);
        Checks.due("42: riots", x.now(1), 127);
        int[] bits = {8, 16, 32};
        int[] at128 = {1, 0, 0};
        for (int b = 0; b < 3; b++) {
            x.sheet(0, bits[b], 1);
            x.write(0, 0, 127);
            Checks.due("42: 127 of " + bits[b] + " bits", x.judge(0), 0);
        }
        x.weeks(1);
        for (int b = 0; b < 3; b++) {
            x.sheet(0, bits[b], 1);
            x.write(0, 0, 128);
            Checks.due("38: 128 of " + bits[b] + " bits", x.judge(0), at128[b]);
        }
        for (int i = 0; i < 4; i++) {
            x.weeks(60);
        }
        x.weeks(17);
        Checks.due("42: more riots", x.now(1), 256);
        for (int b = 0; b < 3; b++) {
            x.sheet(0, bits[b], 1);
            x.write(0, 0, 256);
            Checks.due("38: 256 of " + bits[b] + " bits", x.judge(0), at128[b]);
        }
    }
}
