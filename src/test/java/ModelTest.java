/** Many cities: the class answers what the Terms, followed word by word, tell. */
public final class ModelTest {
    public static void main(String[] args) {
        for (int seed = 1; seed <= 300; seed++) {
            worths(seed);
            gates(seed);
            mostAndPrice(seed);
            weeks(seed);
            ahead(seed);
            judge(seed);
        }
        for (int seed = 1; seed <= 60; seed++) {
            odds(seed);
        }
        Checks.end("ModelTest");
    }

    private static void worths(int seed) {
        BreadGames x = Cities.some(seed);
        PlainCity p = PlainCity.of(x);
        int welfare = 0;
        for (int c = 0; c < p.people; c++) {
            int loaf = p.loafWorth(c);
            int seat = p.seatWorth(c);
            Checks.due("3: loaf", x.of(c, 6), loaf);
            Checks.due("3: seat", x.of(c, 7), seat);
            int wants = p.token[c] == 1 && seat > loaf || p.token[c] == 2 && loaf > seat ? 1 : 0;
            Checks.due("7", x.wants(c), p.token[c] == 0 ? Checks.STATE : wants);
            welfare += p.token[c] == 1 ? loaf : p.token[c] == 2 ? seat : 0;
        }
        Checks.due("12", x.welfare(), welfare);
    }

    private static void gates(int seed) {
        BreadGames x = Cities.some(seed);
        PlainCity p = PlainCity.of(x);
        int made = p.gates();
        Checks.due("10", x.changes(), made);
        Checks.due("9", x.gates(), made);
        same("9", x, p);
    }

    private static void mostAndPrice(int seed) {
        BreadGames x = Cities.some(seed);
        PlainCity p = PlainCity.of(x);
        int loaves = Integer.bitCount(x.now(3));
        int holders = x.now(3) | x.now(4);
        int most = 0;
        for (int eat = 0; eat < 1 << p.people; eat++) {
            if ((eat & ~holders) == 0 && Integer.bitCount(eat) == loaves) {
                int sum = 0;
                for (int c = 0; c < p.people; c++) {
                    int own = (eat >> c & 1) == 1 ? p.loafWorth(c) : p.seatWorth(c);
                    sum += (holders >> c & 1) == 1 ? own : 0;
                }
                most = Math.max(most, sum);
            }
        }
        Checks.due("13", x.most(), most);
        Checks.due("14", x.price(), x.now(4) == 0 ? Checks.NONE : price(p, loaves));
    }

    private static int price(PlainCity p, int loaves) {
        int v = 0;
        while (true) {
            int prefer = 0;
            for (int c = 0; c < p.people; c++) {
                prefer += p.token[c] != 0 && p.loafWorth(c) + v > p.seatWorth(c) ? 1 : 0;
            }
            if (prefer >= loaves) {
                return v;
            }
            v++;
        }
    }

    private static void weeks(int seed) {
        BreadGames x = Cities.some(seed);
        PlainCity p = PlainCity.of(x);
        for (int round = 0; round < 3; round++) {
            int n = 1 + (seed + 11 * round) % 60;
            int before = p.riots;
            for (int i = 0; i < n; i++) {
                p.week();
            }
            Checks.due("15", x.weeks(n), p.riots - before);
            same("15", x, p);
        }
    }

    private static void ahead(int seed) {
        BreadGames x = Cities.some(seed);
        x.weeks(1 + seed % 5);
        int n = seed % 61;
        PlainCity p = PlainCity.of(x);
        int joy = p.sum(p.joy);
        int riots = p.riots;
        int made = 0;
        int riot = 0;
        for (int i = 1; i <= 60; i++) {
            PlainCity before = PlainCity.of(x);
            if (i <= n) {
                made += p.week();
            }
            if (i == 1) {
                before.drawTokens();
                before.gates();
                for (int c = 0; c < p.people; c++) {
                    Checks.due("18", x.next(c), before.token[c]);
                }
            }
        }
        PlainCity q = PlainCity.of(x);
        for (int i = 1; i <= 60 && riot == 0; i++) {
            q.week();
            riot = q.riots > riots ? i : 0;
        }
        Checks.due("17", x.riot(), riot == 0 ? Checks.NONE : riot);
        Checks.due("16: riots", x.ahead(n, 0), p.riots - riots);
        Checks.due("16: hunger", x.ahead(n, 1), p.sum(p.hunger));
        Checks.due("16: joy", x.ahead(n, 2), p.sum(p.joy) - joy);
        Checks.due("16: changes", x.ahead(n, 3), made);
        for (int c = 0; c < p.people; c++) {
            Checks.due("16: its hunger", x.ahead(n, 4 + c), p.hunger[c]);
        }
    }

    private static void judge(int seed) {
        BreadGames x = Cities.some(seed);
        x.weeks(20);
        PlainCity p = PlainCity.of(x);
        int n = seed % 41;
        x.sheet(1, 16, n);
        for (int i = 0; i < n; i++) {
            p.week();
            x.write(1, i, p.riots);
        }
        Checks.due("42: all are", x.judge(1), 0);
        if (n > 0) {
            int at = seed % n;
            x.write(1, at, -1);
            Checks.due("42: one isn't", x.judge(1), 1 + at);
        }
    }

    private static void odds(int seed) {
        BreadGames x = Cities.some(seed);
        PlainCity p = PlainCity.of(x);
        int size = seed % 4;
        x.sheet(2, 8, size);
        for (int i = 0; i < size; i++) {
            x.write(2, i, 1 + (seed >> i & 1));
        }
        long ways = 0;
        long fit = 0;
        long[] eats = new long[10];
        long[] busy = new long[31];
        for (int set = 0; set < 1024; set++) {
            if (p.lay(set)) {
                ways++;
                busy[p.gates()]++;
                boolean fits = true;
                for (int c = 0; c < p.people; c++) {
                    eats[c] += p.token[c] == 1 ? 1 : 0;
                    fits &= c >= size || p.token[c] == 1 + (seed >> c & 1);
                }
                fit += fits ? 1 : 0;
            }
        }
        String before = Checks.portrait(x);
        Checks.due("27", x.ways(), ways);
        for (int c = 0; c < p.people; c++) {
            Checks.due("28", x.eats(c), eats[c]);
        }
        for (int n = 0; n <= 30; n++) {
            Checks.due("29", x.busy(n), busy[n]);
        }
        Checks.due("41", x.tally(2), fit);
        Checks.holds("27 to 41: nothing has changed", before.equals(Checks.portrait(x)));
    }

    private static void same(String promise, BreadGames x, PlainCity p) {
        for (int c = 0; c < p.people; c++) {
            Checks.due(promise + ": hunger", x.of(c, 1), p.hunger[c]);
            Checks.due(promise + ": joy", x.of(c, 4), p.joy[c]);
            Checks.due(promise + ": token", x.of(c, 5), p.token[c]);
        }
        Checks.due(promise + ": week", x.now(0), p.week);
        Checks.due(promise + ": riots", x.now(1), p.riots);
        Checks.due(promise + ": leads", x.now(2), p.leads);
        Checks.due(promise + ": z", x.count(6), p.z);
    }
}
