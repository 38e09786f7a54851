import java.math.BigInteger;
import java.util.ArrayList;
import java.util.Arrays;
import java.util.List;
import java.util.function.IntPredicate;
import java.util.function.Predicate;
import java.util.function.ToIntFunction;
import java.util.regex.Matcher;
import java.util.regex.Pattern;

/**
 * The whole document once more, call by call in its order, in the plainest form and with all of
 * Java's library: RunsTest compares its answers with those of the class.
 */
public final class PlainGames {
    private static final int BEYOND = 0;
    private static final int FULL = 1;
    private static final int KIND = 2;
    private static final int NONE = 3;
    private static final int STATE = 4;
    private static final int MISSING = 5;
    private static final int SIZE = 6;
    private static final List<String> KINDS = List.of("citizen", "widow", "fan", "claque", "hungry", "seller", "boy");
    private static final List<String> RULES = List.of("loaves", "seats", "bound", "leads");
    private static final int[] ABOVE = {-1, 0, 0, 2, 1, 0, 5};
    private static final int[] MOST_OF_CITIZEN = {6, 9, 3, 9999, -1, 2};
    private static final int[] LEAST_OF_RULE = {0, 0, 1, 0, 0};
    private static final int[] MOST_OF_RULE = {10, 10, 10, 3, 1};

    /** What an image keeps. A citizen is KIND, HUNGER, COLOUR, COIN, JOY, TOKEN; rules are those of rule(). */
    private static final class Town {
        final List<int[]> folk = new ArrayList<>();
        final int[] rules = {5, 5, 3, 0, 0};
        final int[] spots = {-1, -1, -1, -1, -1, -1, -1, -1, -1, -1};
        int week = 0;
        int riots = 0;
        int z = 1;

        Town copy() {
            Town t = new Town();
            for (int[] c : folk) {
                t.folk.add(c.clone());
            }
            System.arraycopy(rules, 0, t.rules, 0, 5);
            System.arraycopy(spots, 0, t.spots, 0, 10);
            t.week = week;
            t.riots = riots;
            t.z = z;
            return t;
        }

        boolean has(int citizen) {
            return citizen >= 0 && citizen < folk.size();
        }

        int loaf(int[] c) {
            switch (KINDS.get(c[0])) {
                case "hungry":
                    return loaf(as(c, "widow")) + 4;
                case "seller":
                    return 3;
                case "boy":
                    return loaf(as(c, "seller")) + 1;
                default:
                    return rules[4] == 1 ? c[1] : 2 * c[1];
            }
        }

        int seat(int[] c) {
            boolean leads = c[2] == rules[3];
            switch (KINDS.get(c[0])) {
                case "widow":
                case "hungry":
                    return 0;
                case "fan":
                    return leads ? 2 * seat(as(c, "citizen")) : 1;
                case "claque":
                    return Math.max(5, seat(as(c, "fan")));
                case "seller":
                    return 3;
                case "boy":
                    return seat(as(c, "seller")) + 1;
                default:
                    return leads ? 6 : 2;
            }
        }

        static int[] as(int[] c, String kind) {
            int[] other = c.clone();
            other[0] = KINDS.indexOf(kind);
            return other;
        }

        int worth(int[] c, int token) {
            return token == 1 ? loaf(c) : token == 2 ? seat(c) : 0;
        }

        boolean wants(int[] c) {
            return worth(c, 3 - c[5]) > worth(c, c[5]);
        }

        int gates() {
            int made = 0;
            for (int i = 0; i < folk.size(); i++) {
                for (int j = 0; j < folk.size(); j++) {
                    int[] a = folk.get(i);
                    int[] b = folk.get(j);
                    if (a[5] == 1 && b[5] == 2 && wants(a) && wants(b)) {
                        a[5] = 2;
                        b[5] = 1;
                        made++;
                        i = 0;
                        j = -1;
                    }
                }
            }
            return made;
        }

        int draw() {
            z = (int) (z * 1103515245L + 12345L);
            return (int) ((z & 0xFFFFFFFFL) / 256);
        }

        void deal() {
            int[] left = {rules[0], rules[1]};
            for (int[] c : folk) {
                int all = left[0] + left[1];
                c[5] = all == 0 ? 0 : draw() % all < left[0] ? 1 : 2;
                if (c[5] != 0) {
                    left[c[5] - 1]--;
                }
            }
        }

        int week() {
            deal();
            int made = gates();
            for (int[] c : folk) {
                if (c[5] == 1) {
                    c[1] = Math.max(0, c[1] - (rules[4] == 1 ? 2 : 3));
                } else {
                    c[1] = Math.min(9, c[1] + 1);
                }
                c[4] += c[5] == 2 ? seat(c) : 0;
            }
            if (folk.stream().filter(c -> c[1] >= 7).count() >= rules[2]) {
                riots++;
                folk.forEach(c -> c[1] = Math.min(5, c[1]));
            }
            rules[3] = draw() % 4;
            folk.forEach(c -> c[5] = 0);
            week++;
            return made;
        }

        int weeks(int n) {
            int made = 0;
            for (int i = 0; i < n; i++) {
                made += week();
            }
            return made;
        }

        int sum(int what) {
            return folk.stream().mapToInt(c -> c[what]).sum();
        }

        int set(Predicate<int[]> is) {
            int set = 0;
            for (int c = 0; c < folk.size(); c++) {
                set += is.test(folk.get(c)) ? 1 << c : 0;
            }
            return set;
        }

        /** In how many ways, dealt from a citizen on, town and changes are as asked behind the gates. */
        long ways(int from, int loaves, int seats, Predicate<Town> is, IntPredicate changes) {
            if (from == folk.size() || loaves + seats == 0) {
                for (int c = from; c < folk.size(); c++) {
                    folk.get(c)[5] = 0;
                }
                Town t = copy();
                boolean made = changes.test(t.gates());
                return made && is.test(t) ? 1 : 0;
            }
            long all = 0;
            if (loaves > 0) {
                folk.get(from)[5] = 1;
                all += ways(from + 1, loaves - 1, seats, is, changes);
            }
            if (seats > 0) {
                folk.get(from)[5] = 2;
                all += ways(from + 1, loaves, seats - 1, is, changes);
            }
            return all;
        }
    }

    private static final class Fault extends Exception {
        private static final long serialVersionUID = 1;
        final int at;

        Fault(int at) {
            this.at = at;
        }
    }

    private Town town = new Town();
    private Town kept = null;
    private String tape = "";
    private final int[][] sheets = new int[4][];
    private final int[] bitsOf = new int[4];
    private final int[] found = new int[7];
    private List<String> words;
    private List<Integer> places;
    private int at;

    private int find(int which) {
        found[which]++;
        return -1000001 - which;
    }

    /** Nothing hinders n weeks, or what. */
    private int hinders(int n, int least) {
        return n < least || n > 60 ? BEYOND : town.week + n > 999 ? STATE : -1;
    }

    /** What such a town tells n weeks on. */
    private static int after(Town t, int n, ToIntFunction<Town> tells) {
        t.weeks(n);
        return tells.applyAsInt(t);
    }

    private Town with(int rule, int v) {
        Town t = town.copy();
        t.rules[rule] = v;
        return t;
    }

    public int citizen(int kind) {
        if (kind < 0 || kind > 6) {
            return find(BEYOND);
        }
        if (town.folk.size() == 10) {
            return find(FULL);
        }
        town.folk.add(new int[] {kind, 3, 0, 10, 0, 0});
        return town.folk.size() - 1;
    }

    public int of(int citizen, int what) {
        if (!town.has(citizen) || what < 0 || what > 7) {
            return find(BEYOND);
        }
        int[] c = town.folk.get(citizen);
        return what == 6 ? town.loaf(c) : what == 7 ? town.seat(c) : c[what];
    }

    public int change(int citizen, int what, int v) {
        if (!town.has(citizen) || what < 0 || what > 5 || v < 0 || v > MOST_OF_CITIZEN[what]) {
            return find(BEYOND);
        }
        int was = town.folk.get(citizen)[what];
        town.folk.get(citizen)[what] = v;
        return was;
    }

    public int rule(int what, int v) {
        if (what < 0 || what > 4 || v < LEAST_OF_RULE[what] || v > MOST_OF_RULE[what]) {
            return find(BEYOND);
        }
        int was = town.rules[what];
        town.rules[what] = v;
        return was;
    }

    public int now(int what) {
        switch (what) {
            case 0: return town.week;
            case 1: return town.riots;
            case 2: return town.rules[3];
            case 3: return town.set(c -> c[5] == 1);
            case 4: return town.set(c -> c[5] == 2);
            case 5: return town.set(c -> c[1] >= 7);
            case 6: return 3 * town.rules[0] + 2 * town.rules[1];
            default: return find(BEYOND);
        }
    }

    public int wants(int citizen) {
        if (!town.has(citizen)) {
            return find(BEYOND);
        }
        int[] c = town.folk.get(citizen);
        return c[5] == 0 ? find(STATE) : town.wants(c) ? 1 : 0;
    }

    public int swap(int one, int other) {
        if (!town.has(one) || !town.has(other) || one == other) {
            return find(BEYOND);
        }
        int[] a = town.folk.get(one);
        int[] b = town.folk.get(other);
        if (a[5] == 0 || b[5] == 0 || a[5] == b[5] || !town.wants(a) || !town.wants(b)) {
            return find(STATE);
        }
        a[5] = 3 - a[5];
        b[5] = 3 - b[5];
        return 1;
    }

    public int gates() {
        return town.gates();
    }

    public int changes() {
        return town.copy().gates();
    }

    public int buy(int citizen, int from, int v) {
        if (!town.has(citizen) || !town.has(from) || citizen == from || v < 1 || v > 99) {
            return find(BEYOND);
        }
        int[] a = town.folk.get(citizen);
        int[] b = town.folk.get(from);
        if (a[5] != 0 || b[5] == 0 || a[3] < v || b[3] + v > 9999 || town.worth(b, b[5]) >= v
                || v > town.worth(a, b[5])) {
            return find(STATE);
        }
        a[5] = b[5];
        b[5] = 0;
        a[3] -= v;
        b[3] += v;
        return a[3];
    }

    public int welfare() {
        return town.folk.stream().mapToInt(c -> town.worth(c, c[5])).sum();
    }

    public int most() {
        List<int[]> holders = new ArrayList<>(town.folk);
        holders.removeIf(c -> c[5] == 0);
        return most(holders, (int) holders.stream().filter(c -> c[5] == 1).count());
    }

    private int most(List<int[]> holders, int loaves) {
        if (holders.isEmpty()) {
            return 0;
        }
        List<int[]> others = holders.subList(1, holders.size());
        int[] c = holders.get(0);
        int eats = loaves > 0 ? town.loaf(c) + most(others, loaves - 1) : -1;
        int sees = loaves <= others.size() ? town.seat(c) + most(others, loaves) : -1;
        return Math.max(eats, sees);
    }

    public int price() {
        if (town.set(c -> c[5] == 2) == 0) {
            return find(NONE);
        }
        int loaves = Integer.bitCount(town.set(c -> c[5] == 1));
        int v = 0;
        while (eager(v) < loaves) {
            v++;
        }
        return v;
    }

    private int eager(int v) {
        return Integer.bitCount(town.set(c -> c[5] != 0 && town.loaf(c) + v > town.seat(c)));
    }

    public int weeks(int n) {
        int hinders = hinders(n, 1);
        int was = town.riots;
        return hinders >= 0 ? find(hinders) : after(town, n, t -> t.riots) - was;
    }

    public int ahead(int n, int what) {
        int hinders = what < 0 || what > 3 && !town.has(what - 4) ? BEYOND : hinders(n, 0);
        if (hinders >= 0) {
            return find(hinders);
        }
        Town t = town.copy();
        int made = t.weeks(n);
        switch (what) {
            case 0: return t.riots - town.riots;
            case 1: return t.sum(1);
            case 2: return t.sum(4) - town.sum(4);
            case 3: return made;
            default: return t.folk.get(what - 4)[1];
        }
    }

    public int riot() {
        if (town.week > 939) {
            return find(STATE);
        }
        for (int n = 1; n <= 60; n++) {
            if (after(town.copy(), n, t -> t.riots) > town.riots) {
                return n;
            }
        }
        return find(NONE);
    }

    public int next(int citizen) {
        if (!town.has(citizen)) {
            return find(BEYOND);
        }
        if (town.week == 999) {
            return find(STATE);
        }
        Town t = town.copy();
        t.deal();
        t.gates();
        return t.folk.get(citizen)[5];
    }

    public int loaves(int n) {
        return leastCalm(0, 0, n);
    }

    private int leastCalm(int rule, int least, int n) {
        int hinders = hinders(n, 1);
        if (hinders >= 0) {
            return find(hinders);
        }
        for (int v = least; v <= 10; v++) {
            if (after(with(rule, v), n, t -> t.riots) == town.riots) {
                return v;
            }
        }
        return find(NONE);
    }

    public int cheapest(int n) {
        int hinders = hinders(n, 1);
        if (hinders >= 0) {
            return find(hinders);
        }
        int best = -1;
        int cost = 1000;
        for (int loaves = 0; loaves <= 10; loaves++) {
            for (int seats = 0; seats <= 10; seats++) {
                Town t = with(0, loaves);
                t.rules[1] = seats;
                if (3 * loaves + 2 * seats < cost && after(t, n, u -> u.riots) == town.riots) {
                    cost = 3 * loaves + 2 * seats;
                    best = 100 * loaves + seats;
                }
            }
        }
        return best < 0 ? find(NONE) : best;
    }

    public int leader(int n) {
        int hinders = hinders(n, 1);
        if (hinders >= 0) {
            return find(hinders);
        }
        int[] joy = new int[4];
        for (int colour = 0; colour < 4; colour++) {
            joy[colour] = after(with(3, colour), n, t -> t.sum(4));
        }
        return firstMost(joy);
    }

    private static int firstMost(int[] row) {
        int best = 0;
        for (int i = 1; i < row.length; i++) {
            best = row[i] > row[best] ? i : best;
        }
        return best;
    }

    public int colourFor(int citizen, int n) {
        return bestAs(citizen, 2, new int[4], n, c -> c[4]);
    }

    public int kindFor(int citizen, int n) {
        return bestAs(citizen, 0, new int[7], n, c -> -c[1]);
    }

    private int bestAs(int citizen, int what, int[] good, int n, ToIntFunction<int[]> tells) {
        int hinders = town.has(citizen) ? hinders(n, 1) : BEYOND;
        if (hinders >= 0) {
            return find(hinders);
        }
        for (int v = 0; v < good.length; v++) {
            Town t = town.copy();
            t.folk.get(citizen)[what] = v;
            good[v] = after(t, n, u -> tells.applyAsInt(u.folk.get(citizen)));
        }
        return firstMost(good);
    }

    public int stale(int n) {
        int hinders = hinders(n, 1);
        return hinders >= 0 ? find(hinders)
                : after(with(4, 1 - town.rules[4]), n, t -> t.riots) - after(town.copy(), n, t -> t.riots);
    }

    public int bound(int n) {
        return leastCalm(2, 1, n);
    }

    public int law(int kind, int n) {
        int hinders = kind < 0 || kind > 6 ? BEYOND : hinders(n, 1);
        if (hinders >= 0) {
            return find(hinders);
        }
        Town t = town.copy();
        t.folk.forEach(c -> c[0] = kind);
        return town.copy().weeks(n) - t.weeks(n);
    }

    private long ways(Predicate<Town> is, IntPredicate changes) {
        return town.copy().ways(0, town.rules[0], town.rules[1], is, changes);
    }

    public long ways() {
        return ways(t -> true, made -> true);
    }

    public long eats(int citizen) {
        return town.has(citizen) ? ways(t -> t.folk.get(citizen)[5] == 1, made -> true) : find(BEYOND);
    }

    public long busy(int n) {
        return n >= 0 && n <= 30 ? ways(t -> true, made -> made == n) : find(BEYOND);
    }

    public int famine(int n) {
        if (n < 1 || n > 12) {
            return find(BEYOND);
        }
        if (town.folk.isEmpty()) {
            return find(STATE);
        }
        for (int i = 0; i < n; i++) {
            int[] c = town.folk.get(town.draw() % town.folk.size());
            c[1] = town.draw() % 10;
        }
        return Integer.bitCount(now(5));
    }

    public int seed(int v) {
        int was = town.z;
        town.z = v;
        return was;
    }

    public int feed(int bytes, int n) {
        if (n < 1 || n > 4) {
            return find(BEYOND);
        }
        if (tape.length() + n > 120) {
            return find(FULL);
        }
        String all = "" + (char) (bytes >> 24 & 255) + (char) (bytes >> 16 & 255) + (char) (bytes >> 8 & 255)
                + (char) (bytes & 255);
        tape += all.substring(4 - n);
        return tape.length();
    }

    public int wipe() {
        int had = tape.length();
        tape = "";
        return had;
    }

    public int text() {
        words = new ArrayList<>();
        places = new ArrayList<>();
        Matcher m = Pattern.compile("[a-z]+|[0-9]+|[^ ]", Pattern.DOTALL).matcher(tape);
        while (m.find()) {
            words.add(m.group());
            places.add(m.start());
        }
        words.add("");
        places.add(tape.length());
        tape = "";
        at = 0;
        Town t = town.copy();
        try {
            int items = 1;
            readItem(t);
            while (take(";")) {
                readItem(t);
                items++;
            }
            if (!words.get(at).isEmpty()) {
                throw new Fault(places.get(at));
            }
            town = t;
            return items;
        } catch (Fault f) {
            return -1 - f.at;
        }
    }

    private boolean take(String word) {
        boolean is = words.get(at).equals(word);
        at += is ? 1 : 0;
        return is;
    }

    private int readNumber(int least, int most) throws Fault {
        String word = words.get(at);
        int v = word.matches("0*[0-9]{1,4}") ? new BigInteger(word).intValue() : -1;
        if (v < least || v > most) {
            throw new Fault(places.get(at));
        }
        at++;
        return v;
    }

    private void readItem(Town t) throws Fault {
        String word = words.get(at);
        int kind = KINDS.indexOf(word);
        int rule = RULES.indexOf(word);
        boolean none = kind < 0 && rule < 0 && !word.equals("stale") && !word.equals("fresh");
        if (none || kind >= 0 && t.folk.size() == 10) {
            throw new Fault(places.get(at));
        }
        at++;
        if (rule >= 0) {
            t.rules[rule] = readNumber(LEAST_OF_RULE[rule], MOST_OF_RULE[rule]);
        } else if (kind < 0) {
            t.rules[4] = word.equals("stale") ? 1 : 0;
        } else {
            int[] c = {kind, 3, 0, 10, 0, 0};
            c[1] = take("hunger") ? readNumber(0, 9) : 3;
            c[2] = take("colour") ? readNumber(0, 3) : 0;
            c[3] = take("coin") ? readNumber(0, 9999) : 10;
            c[5] = take("loaf") ? 1 : take("seat") ? 2 : 0;
            t.folk.add(c);
        }
    }

    public int hold(int spot, int citizen) {
        if (spot < 0 || spot > 9 || citizen != -1 && !town.has(citizen)) {
            return find(BEYOND);
        }
        town.spots[spot] = citizen;
        return 1;
    }

    public int as(int spot, int kind) {
        if (spot < 0 || spot > 9 || kind < 0 || kind > 6) {
            return find(BEYOND);
        }
        int citizen = town.spots[spot];
        if (citizen == -1) {
            return find(MISSING);
        }
        int k = town.folk.get(citizen)[0];
        boolean is = k == kind || ABOVE[k] == kind || ABOVE[k] > 0 && ABOVE[ABOVE[k]] == kind;
        return is ? citizen : find(KIND);
    }

    private boolean noSheet(int s) {
        return s < 0 || s > 3;
    }

    public int sheet(int s, int bits, int n) {
        if (noSheet(s) || !List.of(0, 8, 16, 32).contains(bits)) {
            return find(BEYOND);
        }
        if (n < 0) {
            return find(SIZE);
        }
        if (n > 40) {
            return find(BEYOND);
        }
        bitsOf[s] = bits;
        sheets[s] = bits == 0 ? null : new int[n];
        return bits == 0 ? 0 : n;
    }

    public int write(int s, int i, int v) {
        if (noSheet(s)) {
            return find(BEYOND);
        }
        if (sheets[s] == null) {
            return find(MISSING);
        }
        if (i < 0 || i >= sheets[s].length) {
            return find(BEYOND);
        }
        int gone = 32 - bitsOf[s];
        sheets[s][i] = v << gone >> gone;
        return 1;
    }

    public int copy(int s, int from, int t, int to, int n) {
        if (noSheet(s) || noSheet(t)) {
            return find(BEYOND);
        }
        if (sheets[s] == null || sheets[t] == null) {
            return find(MISSING);
        }
        if (bitsOf[s] != bitsOf[t]) {
            return find(KIND);
        }
        boolean below = from < 0 || to < 0 || n < 0;
        if (below || (long) from + n > sheets[s].length || (long) to + n > sheets[t].length) {
            return find(BEYOND);
        }
        int[] was = sheets[s].clone();
        for (int i = 0; i < n; i++) {
            sheets[t][to + i] = was[from + i];
        }
        return n;
    }

    public int load(int s) {
        if (noSheet(s)) {
            return find(BEYOND);
        }
        if (sheets[s] == null) {
            return find(MISSING);
        }
        int i = 0;
        while (i < sheets[s].length && town.has(i) && sheets[s][i] >= 0 && sheets[s][i] <= 9) {
            town.folk.get(i)[1] = sheets[s][i];
            i++;
        }
        return i;
    }

    public long tally(int s) {
        if (noSheet(s)) {
            return find(BEYOND);
        }
        return sheets[s] == null ? find(MISSING) : ways(t -> tellsTokens(sheets[s], t), made -> true);
    }

    private static boolean tellsTokens(int[] numbers, Town t) {
        boolean so = true;
        for (int i = 0; i < numbers.length && t.has(i); i++) {
            so &= numbers[i] == t.folk.get(i)[5];
        }
        return so;
    }

    public int judge(int s) {
        if (noSheet(s)) {
            return find(BEYOND);
        }
        if (sheets[s] == null) {
            return find(MISSING);
        }
        if (town.week + sheets[s].length > 999) {
            return find(STATE);
        }
        for (int i = 0; i < sheets[s].length; i++) {
            if (after(town.copy(), 1 + i, t -> t.riots) != sheets[s][i]) {
                return 1 + i;
            }
        }
        return 0;
    }

    public int image() {
        kept = town.copy();
        return 1;
    }

    public int undo() {
        if (kept == null) {
            return find(NONE);
        }
        town = kept.copy();
        return town.week;
    }

    public int tear() {
        int had = kept == null ? 0 : 1;
        kept = null;
        return had;
    }

    public int count(int what) {
        switch (what) {
            case 0: return town.week;
            case 1: return town.folk.size();
            case 2: return town.sum(1);
            case 3: return town.sum(3);
            case 4: return town.sum(4);
            case 5: return tape.length();
            case 6: return town.z;
            case 7: return (int) Arrays.stream(town.spots).filter(c -> c >= 0).count();
            default: return find(BEYOND);
        }
    }

    public int status(int which) {
        if (which < -1 || which > 6) {
            return find(BEYOND);
        }
        return which >= 0 ? found[which] : Arrays.stream(found).sum();
    }
}
