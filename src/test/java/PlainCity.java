/**
 * The Terms of the document once more, word by word and without any short cut: what the class
 * answers is compared with what this tells.
 */
final class PlainCity {
    private static final int[] ABOVE = {-1, 0, 0, 2, 1, 0, 5};

    int people;
    int[] kind = new int[10];
    int[] hunger = new int[10];
    int[] colour = new int[10];
    int[] joy = new int[10];
    int[] token = new int[10];
    int loaves;
    int seats;
    int bound;
    int leads;
    int stale;
    int week;
    int riots;
    int z;

    /** What an object tells of itself. */
    static PlainCity of(BreadGames x) {
        PlainCity p = new PlainCity();
        p.people = x.count(1);
        for (int c = 0; c < p.people; c++) {
            p.kind[c] = x.of(c, 0);
            p.hunger[c] = x.of(c, 1);
            p.colour[c] = x.of(c, 2);
            p.joy[c] = x.of(c, 4);
            p.token[c] = x.of(c, 5);
        }
        int[] rules = new int[5];
        for (int what = 0; what < 5; what++) {
            rules[what] = x.rule(what, 1);
            x.rule(what, rules[what]);
        }
        p.loaves = rules[0];
        p.seats = rules[1];
        p.bound = rules[2];
        p.leads = rules[3];
        p.stale = rules[4];
        p.week = x.now(0);
        p.riots = x.now(1);
        p.z = x.count(6);
        return p;
    }

    int loafWorth(int c) {
        return loafWorthAs(kind[c], c);
    }

    private int loafWorthAs(int k, int c) {
        if (k == 0) {
            return stale == 1 ? 2 * hunger[c] / 2 : 2 * hunger[c];
        }
        if (k == 4) {
            return loafWorthAs(ABOVE[k], c) + 4;
        }
        if (k == 5) {
            return 3;
        }
        if (k == 6) {
            return loafWorthAs(ABOVE[k], c) + 1;
        }
        return loafWorthAs(ABOVE[k], c);
    }

    int seatWorth(int c) {
        return seatWorthAs(kind[c], c);
    }

    private int seatWorthAs(int k, int c) {
        boolean ahead = colour[c] == leads;
        switch (k) {
            case 0:
                return ahead ? 2 * 3 : 2;
            case 1:
                return 0;
            case 2:
                return ahead ? 2 * seatWorthAs(ABOVE[k], c) : 1;
            case 3:
                return Math.max(5, seatWorthAs(ABOVE[k], c));
            case 5:
                return 3;
            case 6:
                return seatWorthAs(ABOVE[k], c) + 1;
            default:
                return seatWorthAs(ABOVE[k], c);
        }
    }

    /** The first two that change, found anew each time. */
    int gates() {
        int made = 0;
        while (changeFirstTwo()) {
            made++;
        }
        return made;
    }

    private boolean changeFirstTwo() {
        for (int a = 0; a < people; a++) {
            for (int b = 0; b < people; b++) {
                if (token[a] == 1 && token[b] == 2 && seatWorth(a) > loafWorth(a)
                        && loafWorth(b) > seatWorth(b)) {
                    token[a] = 2;
                    token[b] = 1;
                    return true;
                }
            }
        }
        return false;
    }

    int draw() {
        z = z * 1103515245 + 12345;
        return z >>> 8;
    }

    void drawTokens() {
        int loavesLeft = loaves;
        int seatsLeft = seats;
        for (int c = 0; c < people; c++) {
            token[c] = 0;
            if (loavesLeft + seatsLeft > 0) {
                token[c] = draw() % (loavesLeft + seatsLeft) < loavesLeft ? 1 : 2;
                loavesLeft -= token[c] == 1 ? 1 : 0;
                seatsLeft -= token[c] == 2 ? 1 : 0;
            }
        }
    }

    int week() {
        drawTokens();
        int made = gates();
        int hungry = 0;
        for (int c = 0; c < people; c++) {
            int less = stale == 1 ? 2 : 3;
            hunger[c] = token[c] == 1 ? Math.max(0, hunger[c] - less) : Math.min(9, hunger[c] + 1);
            joy[c] += token[c] == 2 ? seatWorth(c) : 0;
            hungry += hunger[c] >= 7 ? 1 : 0;
        }
        if (hungry >= bound) {
            riots++;
            for (int c = 0; c < people; c++) {
                hunger[c] = Math.min(hunger[c], 5);
            }
        }
        leads = draw() % 4;
        for (int c = 0; c < people; c++) {
            token[c] = 0;
        }
        week++;
        return made;
    }

    /** The n-th way in which tokens lie, or false if there is none of that number. */
    boolean lay(int set) {
        int first = Math.min(people, loaves + seats);
        if (set >= 1 << first) {
            return false;
        }
        int eat = 0;
        for (int c = 0; c < people; c++) {
            token[c] = c >= first ? 0 : (set & 1 << c) != 0 ? 1 : 2;
            eat += token[c] == 1 ? 1 : 0;
        }
        return eat <= loaves && first - eat <= seats;
    }

    int sum(int[] row) {
        int all = 0;
        for (int c = 0; c < people; c++) {
            all += row[c];
        }
        return all;
    }
}
