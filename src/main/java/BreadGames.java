/**
 * Bread or the games: each citizen draws one token a week, a loaf or a seat, and may change it at
 * the gates. The document's promises are kept here; its words name the parts.
 */
public final class BreadGames {
    private static final int LOW = -1000001;
    private static final int FINE = -1;
    private static final int BEYOND = 0;
    private static final int FULL = 1;
    private static final int KIND = 2;
    private static final int NONE = 3;
    private static final int STATE = 4;
    private static final int MISSING = 5;
    private static final int SIZE = 6;
    private static final int FINDINGS = 7;

    private static final int MOST_CITIZENS = 10;
    private static final int KINDS = 7;
    private static final int COLOURS = 4;
    private static final int MOST_TOKENS = 10;
    private static final int MOST_COIN = 9999;
    private static final int MOST_HUNGER = 9;
    private static final int STARVING = 7;
    private static final int LAST_WEEK = 999;
    private static final int FARTHEST = 60;
    private static final int HIGHEST_PRICE = 99;
    private static final int MOST_CHANGES = 30;
    private static final int MOST_FAMINES = 12;
    private static final int SPOTS = 10;
    private static final int SHEETS = 4;
    private static final int LONGEST_SHEET = 40;
    private static final int LONGEST_TAPE = 120;

    private static final int OF_KIND = 0;
    private static final int OF_HUNGER = 1;
    private static final int OF_COLOUR = 2;
    private static final int OF_COIN = 3;
    private static final int OF_JOY = 4;
    private static final int OF_TOKEN = 5;
    private static final int OF_LOAF = 6;
    private static final int OF_SEAT = 7;

    private static final int RULE_LOAVES = 0;
    private static final int RULE_SEATS = 1;
    private static final int RULE_BOUND = 2;
    private static final int RULE_LEADS = 3;
    private static final int RULE_STALE = 4;

    private static final int NO_TOKEN = 0;
    private static final int LOAF = 1;
    private static final int SEAT = 2;

    private static final int ARE_DRAWN = 0;
    private static final int FEED = 1;
    private static final int CHANGE_TIMES = 2;
    private static final int FIT_SHEET = 3;

    private static final int WIDOW = 1;
    private static final int FAN = 2;
    private static final int CLAQUE = 3;
    private static final int HUNGRY = 4;
    private static final int SELLER = 5;
    private static final int BOY = 6;

    private static final int[] KIND_ABOVE = {-1, 0, 0, 2, 1, 0, 5};

    private final City city;
    private final City trial;
    private final City kept;
    private final Tape tape;
    private final Sheet[] sheets;
    private final int[] found;
    private boolean keeps;

    public BreadGames() {
        city = new City();
        trial = new City();
        kept = new City();
        tape = new Tape();
        sheets = new Sheet[SHEETS];
        for (int s = 0; s < SHEETS; s++) {
            sheets[s] = new Sheet();
        }
        found = new int[FINDINGS];
        keeps = false;
    }

    // ---- citizens

    public int citizen(int kind) {
        if (!isKind(kind)) {
            return finding(BEYOND);
        }
        if (city.people >= MOST_CITIZENS) {
            return finding(FULL);
        }
        city.settle(kind);
        return city.people - 1;
    }

    public int of(int citizen, int what) {
        if (!city.houses(citizen)) {
            return finding(BEYOND);
        }
        switch (what) {
            case OF_JOY:
                return city.joy[citizen];
            case OF_LOAF:
                return city.loafWorth(citizen);
            case OF_SEAT:
                return city.seatWorth(citizen);
            default:
                return City.hasTrait(what) ? city.trait(citizen, what) : finding(BEYOND);
        }
    }

    public int change(int citizen, int what, int v) {
        if (!city.houses(citizen) || !City.allowsTrait(what, v)) {
            return finding(BEYOND);
        }
        int was = city.trait(citizen, what);
        city.setTrait(citizen, what, v);
        return was;
    }

    public int rule(int what, int v) {
        if (!City.allowsRule(what, v)) {
            return finding(BEYOND);
        }
        int was = city.ruling(what);
        city.setRuling(what, v);
        return was;
    }

    public int now(int what) {
        switch (what) {
            case 0:
                return city.week;
            case 1:
                return city.riots;
            case 2:
                return city.leads;
            case 3:
                return city.holders(LOAF);
            case 4:
                return city.holders(SEAT);
            case 5:
                return city.starving();
            case 6:
                return 3 * city.loaves + 2 * city.seats;
            default:
                return finding(BEYOND);
        }
    }

    // ---- gates

    public int wants(int citizen) {
        if (!city.houses(citizen)) {
            return finding(BEYOND);
        }
        if (city.token[citizen] == NO_TOKEN) {
            return finding(STATE);
        }
        return city.wantsOther(citizen) ? 1 : 0;
    }

    public int swap(int one, int other) {
        if (!city.houses(one) || !city.houses(other) || one == other) {
            return finding(BEYOND);
        }
        boolean both = city.token[one] == LOAF && city.token[other] == SEAT
                || city.token[one] == SEAT && city.token[other] == LOAF;
        if (!both || !city.wantsOther(one) || !city.wantsOther(other)) {
            return finding(STATE);
        }
        city.exchange(one, other);
        return 1;
    }

    public int gates() {
        return city.openGates();
    }

    public int changes() {
        trial.become(city);
        return trial.openGates();
    }

    public int buy(int citizen, int from, int v) {
        boolean two = city.houses(citizen) && city.houses(from) && citizen != from;
        if (!two || v < 1 || v > HIGHEST_PRICE) {
            return finding(BEYOND);
        }
        if (!city.wouldTrade(citizen, from, v)) {
            return finding(STATE);
        }
        city.trade(citizen, from, v);
        return city.coin[citizen];
    }

    public int welfare() {
        return city.allWorth();
    }

    public int most() {
        return city.bestWorth();
    }

    public int price() {
        if (city.holders(SEAT) == 0) {
            return finding(NONE);
        }
        int loafHolders = Integer.bitCount(city.holders(LOAF));
        for (int v = 0; v <= HIGHEST_PRICE; v++) {
            if (city.preferLoafAt(v) >= loafHolders) {
                return v;
            }
        }
        return finding(NONE);
    }

    // ---- weeks

    public int weeks(int n) {
        int hindrance = hindrance(n);
        if (hindrance != FINE) {
            return finding(hindrance);
        }
        int riotsBefore = city.riots;
        city.passWeeks(n);
        return city.riots - riotsBefore;
    }

    public int ahead(int n, int what) {
        boolean told = what >= 0 && what < 4 + city.people;
        if (n < 0 || n > FARTHEST || !told) {
            return finding(BEYOND);
        }
        if (city.week + n > LAST_WEEK) {
            return finding(STATE);
        }
        trial.become(city);
        int changesSeen = trial.passWeeks(n);
        switch (what) {
            case 0:
                return trial.riots - city.riots;
            case 1:
                return trial.allOf(trial.hunger);
            case 2:
                return trial.allOf(trial.joy) - city.allOf(city.joy);
            case 3:
                return changesSeen;
            default:
                return trial.hunger[what - 4];
        }
    }

    public int riot() {
        if (city.week + FARTHEST > LAST_WEEK) {
            return finding(STATE);
        }
        trial.become(city);
        int calm = trial.calmWeeks(FARTHEST);
        return calm < FARTHEST ? calm + 1 : finding(NONE);
    }

    public int next(int citizen) {
        if (!city.houses(citizen)) {
            return finding(BEYOND);
        }
        if (city.week >= LAST_WEEK) {
            return finding(STATE);
        }
        trial.become(city);
        trial.drawTokens();
        trial.openGates();
        return trial.token[citizen];
    }

    // ---- the prefect

    public int loaves(int n) {
        return leastCalmRuling(RULE_LOAVES, n);
    }

    public int cheapest(int n) {
        int hindrance = hindrance(n);
        if (hindrance != FINE) {
            return finding(hindrance);
        }
        int dearest = 5 * MOST_TOKENS;
        for (int cost = 0; cost <= dearest; cost++) {
            for (int bread = 0; bread <= MOST_TOKENS; bread++) {
                int left = cost - 3 * bread;
                boolean fits = left >= 0 && left % 2 == 0 && left / 2 <= MOST_TOKENS;
                if (fits && isCalmWith(bread, left / 2, n)) {
                    return 100 * bread + left / 2;
                }
            }
        }
        return finding(NONE);
    }

    public int leader(int n) {
        int hindrance = hindrance(n);
        if (hindrance != FINE) {
            return finding(hindrance);
        }
        int best = 0;
        int mostJoy = -1;
        for (int colour = 0; colour < COLOURS; colour++) {
            trial.become(city);
            trial.leads = colour;
            trial.passWeeks(n);
            int joy = trial.allOf(trial.joy);
            if (joy > mostJoy) {
                mostJoy = joy;
                best = colour;
            }
        }
        return best;
    }

    public int colourFor(int citizen, int n) {
        return bestTrait(citizen, OF_COLOUR, COLOURS, n);
    }

    public int kindFor(int citizen, int n) {
        return bestTrait(citizen, OF_KIND, KINDS, n);
    }

    public int stale(int n) {
        int hindrance = hindrance(n);
        if (hindrance != FINE) {
            return finding(hindrance);
        }
        trial.become(city);
        trial.passWeeks(n);
        int riotsAsItIs = trial.riots;
        trial.become(city);
        trial.stale = 1 - city.stale;
        trial.passWeeks(n);
        return trial.riots - riotsAsItIs;
    }

    public int bound(int n) {
        return leastCalmRuling(RULE_BOUND, n);
    }

    public int law(int kind, int n) {
        int hindrance = isKind(kind) ? hindrance(n) : BEYOND;
        if (hindrance != FINE) {
            return finding(hindrance);
        }
        trial.become(city);
        int changesAsItIs = trial.passWeeks(n);
        trial.become(city);
        for (int c = 0; c < trial.people; c++) {
            trial.kind[c] = kind;
        }
        return changesAsItIs - trial.passWeeks(n);
    }

    // ---- odds

    public long ways() {
        return waysThat(ARE_DRAWN, 0);
    }

    public long eats(int citizen) {
        return city.houses(citizen) ? waysThat(FEED, citizen) : finding(BEYOND);
    }

    public long busy(int n) {
        return n >= 0 && n <= MOST_CHANGES ? waysThat(CHANGE_TIMES, n) : finding(BEYOND);
    }

    public int famine(int n) {
        if (n < 1 || n > MOST_FAMINES) {
            return finding(BEYOND);
        }
        if (city.people == 0) {
            return finding(STATE);
        }
        for (int i = 0; i < n; i++) {
            city.strike();
        }
        return Integer.bitCount(city.starving());
    }

    public int seed(int v) {
        int was = city.z;
        city.z = v;
        return was;
    }

    // ---- texts

    public int feed(int bytes, int n) {
        if (n < 1 || n > 4) {
            return finding(BEYOND);
        }
        if (tape.length + n > LONGEST_TAPE) {
            return finding(FULL);
        }
        for (int i = n - 1; i >= 0; i--) {
            tape.append(bytes >>> (8 * i) & 255);
        }
        return tape.length;
    }

    public int wipe() {
        int had = tape.length;
        tape.length = 0;
        return had;
    }

    public int text() {
        trial.become(city);
        tape.rewind();
        int items = 0;
        boolean stands = true;
        boolean more = true;
        // Each round reads one item of a byte or more, so the tape's length bounds them.
        for (int round = 0; round <= LONGEST_TAPE && stands && more; round++) {
            tape.advance();
            stands = readItem();
            items++;
            more = stands && tape.sort == Tape.SIGN;
        }
        int fault = tape.start;
        stands = stands && tape.sort == Tape.END;
        tape.length = 0;
        if (!stands) {
            return -1 - fault;
        }
        city.become(trial);
        return items;
    }

    // ---- spots, sheets

    public int hold(int spot, int citizen) {
        if (!isSpot(spot) || citizen != -1 && !city.houses(citizen)) {
            return finding(BEYOND);
        }
        city.spot[spot] = citizen;
        return 1;
    }

    public int as(int spot, int kind) {
        if (!isSpot(spot) || !isKind(kind)) {
            return finding(BEYOND);
        }
        int citizen = city.spot[spot];
        if (!city.houses(citizen)) {
            return finding(MISSING);
        }
        return isUnder(city.kind[citizen], kind) ? citizen : finding(KIND);
    }

    public int sheet(int s, int bits, int n) {
        boolean known = bits == 0 || bits == 8 || bits == 16 || bits == 32;
        if (!isSheet(s) || !known) {
            return finding(BEYOND);
        }
        if (n < 0) {
            return finding(SIZE);
        }
        if (n > LONGEST_SHEET) {
            return finding(BEYOND);
        }
        sheets[s].renew(bits, bits == 0 ? 0 : n);
        return sheets[s].size;
    }

    public int write(int s, int i, int v) {
        int hindrance = sheetHindrance(s);
        if (hindrance != FINE) {
            return finding(hindrance);
        }
        if (i < 0 || i >= sheets[s].size) {
            return finding(BEYOND);
        }
        sheets[s].put(i, v);
        return 1;
    }

    public int copy(int s, int from, int t, int to, int n) {
        if (!isSheet(s) || !isSheet(t)) {
            return finding(BEYOND);
        }
        Sheet source = sheets[s];
        Sheet target = sheets[t];
        if (source.bits == 0 || target.bits == 0) {
            return finding(MISSING);
        }
        if (source.bits != target.bits) {
            return finding(KIND);
        }
        if (!source.spans(from, n) || !target.spans(to, n)) {
            return finding(BEYOND);
        }
        // arraycopy takes the numbers as they all were, also within one row.
        System.arraycopy(source.numbers, from, target.numbers, to, n);
        return n;
    }

    public int load(int s) {
        int hindrance = sheetHindrance(s);
        if (hindrance != FINE) {
            return finding(hindrance);
        }
        Sheet source = sheets[s];
        int both = Math.min(source.size, city.people);
        for (int i = 0; i < both; i++) {
            if (!City.allowsTrait(OF_HUNGER, source.numbers[i])) {
                return i;
            }
            city.hunger[i] = source.numbers[i];
        }
        return both;
    }

    public long tally(int s) {
        int hindrance = sheetHindrance(s);
        if (hindrance != FINE) {
            return finding(hindrance);
        }
        return waysThat(FIT_SHEET, s);
    }

    public int judge(int s) {
        int hindrance = sheetHindrance(s);
        if (hindrance != FINE) {
            return finding(hindrance);
        }
        Sheet told = sheets[s];
        if (city.week + told.size > LAST_WEEK) {
            return finding(STATE);
        }
        trial.become(city);
        for (int i = 0; i < told.size; i++) {
            trial.passWeek();
            if (trial.riots != told.numbers[i]) {
                return 1 + i;
            }
        }
        return 0;
    }

    // ---- images

    public int image() {
        kept.become(city);
        keeps = true;
        return 1;
    }

    public int undo() {
        if (!keeps) {
            return finding(NONE);
        }
        city.become(kept);
        return city.week;
    }

    public int tear() {
        int had = keeps ? 1 : 0;
        keeps = false;
        return had;
    }

    public int count(int what) {
        switch (what) {
            case 0:
                return city.week;
            case 1:
                return city.people;
            case 2:
                return city.allOf(city.hunger);
            case 3:
                return city.allOf(city.coin);
            case 4:
                return city.allOf(city.joy);
            case 5:
                return tape.length;
            case 6:
                return city.z;
            case 7:
                return city.heldSpots();
            default:
                return finding(BEYOND);
        }
    }

    public int status(int which) {
        if (which < -1 || which >= FINDINGS) {
            return finding(BEYOND);
        }
        if (which >= 0) {
            return found[which];
        }
        int all = 0;
        for (int f = 0; f < FINDINGS; f++) {
            all += found[f];
        }
        return all;
    }

    // ---- behind the face

    private int finding(int which) {
        if (which >= 0 && which < FINDINGS) {
            found[which]++;
        }
        return LOW - which;
    }

    /** What hinders n weeks from going: the finding, or FINE. */
    private int hindrance(int n) {
        if (n < 1 || n > FARTHEST) {
            return BEYOND;
        }
        return city.week + n > LAST_WEEK ? STATE : FINE;
    }

    /** What hinders the use of a sheet: the finding, or FINE. */
    private int sheetHindrance(int s) {
        if (!isSheet(s)) {
            return BEYOND;
        }
        return sheets[s].bits == 0 ? MISSING : FINE;
    }

    private static boolean isKind(int kind) {
        return kind >= 0 && kind < KINDS;
    }

    private static boolean isSpot(int spot) {
        return spot >= 0 && spot < SPOTS;
    }

    private static boolean isSheet(int s) {
        return s >= 0 && s < SHEETS;
    }

    private static boolean isUnder(int kind, int top) {
        int at = kind;
        for (int level = 0; level < KINDS && isKind(at); level++) {
            if (at == top) {
                return true;
            }
            at = KIND_ABOVE[at];
        }
        return false;
    }

    private int leastCalmRuling(int what, int n) {
        int hindrance = hindrance(n);
        if (hindrance != FINE) {
            return finding(hindrance);
        }
        for (int v = 0; v <= MOST_TOKENS; v++) {
            if (City.allowsRule(what, v)) {
                trial.become(city);
                trial.setRuling(what, v);
                if (trial.calmWeeks(n) == n) {
                    return v;
                }
            }
        }
        return finding(NONE);
    }

    /** How many WAYS are so as the gates end; v is the citizen, number or sheet asked for. */
    private long waysThat(int areSo, int v) {
        trial.become(city);
        long so = 0;
        int sets = 1 << trial.drawers();
        for (int set = 0; set < sets; set++) {
            if (trial.canDeal(set)) {
                trial.deal(set);
                int made = trial.openGates();
                if (isSo(areSo, v, made)) {
                    so++;
                }
            }
        }
        return so;
    }

    private boolean isSo(int areSo, int v, int made) {
        switch (areSo) {
            case FEED:
                return trial.houses(v) && trial.token[v] == LOAF;
            case CHANGE_TIMES:
                return made == v;
            case FIT_SHEET:
                return isSheet(v) && trial.fits(sheets[v]);
            default:
                return true;
        }
    }

    /** The least of those below an end that serves a citizen best: a colour joy, a kind hunger. */
    private int bestTrait(int citizen, int what, int end, int n) {
        int hindrance = city.houses(citizen) ? hindrance(n) : BEYOND;
        if (hindrance != FINE) {
            return finding(hindrance);
        }
        int best = 0;
        int most = 0;
        for (int v = 0; v < end; v++) {
            trial.become(city);
            trial.setTrait(citizen, what, v);
            trial.passWeeks(n);
            int good = what == OF_COLOUR ? trial.joy[citizen] : -trial.hunger[citizen];
            if (v == 0 || good > most) {
                best = v;
                most = good;
            }
        }
        return best;
    }

    private boolean isCalmWith(int bread, int places, int n) {
        trial.become(city);
        trial.loaves = bread;
        trial.seats = places;
        return trial.calmWeeks(n) == n;
    }

    /** Reads one item into the trial; what can't stand there stays the tape's latest token. */
    private boolean readItem() {
        int kind = tape.kindTold();
        if (isKind(kind)) {
            return readCitizen(kind);
        }
        if (tape.isWord("loaves")) {
            return readRuling(RULE_LOAVES);
        }
        if (tape.isWord("seats")) {
            return readRuling(RULE_SEATS);
        }
        if (tape.isWord("bound")) {
            return readRuling(RULE_BOUND);
        }
        if (tape.isWord("leads")) {
            return readRuling(RULE_LEADS);
        }
        boolean isStale = tape.isWord("stale");
        if (!isStale && !tape.isWord("fresh")) {
            return false;
        }
        trial.stale = isStale ? 1 : 0;
        tape.advance();
        return true;
    }

    private boolean readCitizen(int kind) {
        if (trial.people >= MOST_CITIZENS) {
            return false;
        }
        trial.settle(kind);
        tape.advance();
        if (!readTrait("hunger", OF_HUNGER) || !readTrait("colour", OF_COLOUR)
                || !readTrait("coin", OF_COIN)) {
            return false;
        }
        boolean isLoaf = tape.isWord("loaf");
        if (isLoaf || tape.isWord("seat")) {
            trial.setTrait(trial.people - 1, OF_TOKEN, isLoaf ? LOAF : SEAT);
            tape.advance();
        }
        return true;
    }

    /** False only where the word stands and its number doesn't. */
    private boolean readTrait(String word, int what) {
        if (!tape.isWord(word)) {
            return true;
        }
        tape.advance();
        if (tape.sort != Tape.NUMBER || !City.allowsTrait(what, tape.value)) {
            return false;
        }
        trial.setTrait(trial.people - 1, what, tape.value);
        tape.advance();
        return true;
    }

    private boolean readRuling(int what) {
        tape.advance();
        if (tape.sort != Tape.NUMBER || !City.allowsRule(what, tape.value)) {
            return false;
        }
        trial.setRuling(what, tape.value);
        tape.advance();
        return true;
    }

    /** All that an image keeps; a second one is where weeks AHEAD are tried. */
    private static final class City {
        final int[] kind = new int[MOST_CITIZENS];
        final int[] hunger = new int[MOST_CITIZENS];
        final int[] colour = new int[MOST_CITIZENS];
        final int[] coin = new int[MOST_CITIZENS];
        final int[] joy = new int[MOST_CITIZENS];
        final int[] token = new int[MOST_CITIZENS];
        final int[] spot = new int[SPOTS];
        int people = 0;
        int leads = 0;
        int loaves = 5;
        int seats = 5;
        int bound = 3;
        int stale = 0;
        int week = 0;
        int riots = 0;
        int z = 1;

        City() {
            for (int s = 0; s < SPOTS; s++) {
                spot[s] = -1;
            }
        }

        void become(City other) {
            System.arraycopy(other.kind, 0, kind, 0, MOST_CITIZENS);
            System.arraycopy(other.hunger, 0, hunger, 0, MOST_CITIZENS);
            System.arraycopy(other.colour, 0, colour, 0, MOST_CITIZENS);
            System.arraycopy(other.coin, 0, coin, 0, MOST_CITIZENS);
            System.arraycopy(other.joy, 0, joy, 0, MOST_CITIZENS);
            System.arraycopy(other.token, 0, token, 0, MOST_CITIZENS);
            System.arraycopy(other.spot, 0, spot, 0, SPOTS);
            people = other.people;
            leads = other.leads;
            loaves = other.loaves;
            seats = other.seats;
            bound = other.bound;
            stale = other.stale;
            week = other.week;
            riots = other.riots;
            z = other.z;
        }

        boolean houses(int citizen) {
            return citizen >= 0 && citizen < people;
        }

        /** The caller has seen that there is room. */
        void settle(int ofKind) {
            int newcomer = people;
            if (newcomer >= MOST_CITIZENS) {
                return;
            }
            kind[newcomer] = ofKind;
            hunger[newcomer] = 3;
            colour[newcomer] = 0;
            coin[newcomer] = 10;
            joy[newcomer] = 0;
            token[newcomer] = NO_TOKEN;
            people = newcomer + 1;
        }

        static boolean hasTrait(int what) {
            return what >= OF_KIND && what <= OF_TOKEN && what != OF_JOY;
        }

        static boolean allowsTrait(int what, int v) {
            switch (what) {
                case OF_KIND:
                    return isKind(v);
                case OF_HUNGER:
                    return v >= 0 && v <= MOST_HUNGER;
                case OF_COLOUR:
                    return v >= 0 && v < COLOURS;
                case OF_COIN:
                    return v >= 0 && v <= MOST_COIN;
                case OF_TOKEN:
                    return v >= NO_TOKEN && v <= SEAT;
                default:
                    return false;
            }
        }

        int trait(int citizen, int what) {
            switch (what) {
                case OF_KIND:
                    return kind[citizen];
                case OF_HUNGER:
                    return hunger[citizen];
                case OF_COLOUR:
                    return colour[citizen];
                case OF_COIN:
                    return coin[citizen];
                default:
                    return token[citizen];
            }
        }

        void setTrait(int citizen, int what, int v) {
            if (!houses(citizen)) {
                return;
            }
            switch (what) {
                case OF_KIND:
                    kind[citizen] = v;
                    break;
                case OF_HUNGER:
                    hunger[citizen] = v;
                    break;
                case OF_COLOUR:
                    colour[citizen] = v;
                    break;
                case OF_COIN:
                    coin[citizen] = v;
                    break;
                default:
                    token[citizen] = v;
                    break;
            }
        }

        static boolean allowsRule(int what, int v) {
            switch (what) {
                case RULE_LOAVES:
                case RULE_SEATS:
                    return v >= 0 && v <= MOST_TOKENS;
                case RULE_BOUND:
                    return v >= 1 && v <= MOST_CITIZENS;
                case RULE_LEADS:
                    return v >= 0 && v < COLOURS;
                case RULE_STALE:
                    return v == 0 || v == 1;
                default:
                    return false;
            }
        }

        int ruling(int what) {
            switch (what) {
                case RULE_LOAVES:
                    return loaves;
                case RULE_SEATS:
                    return seats;
                case RULE_BOUND:
                    return bound;
                case RULE_LEADS:
                    return leads;
                default:
                    return stale;
            }
        }

        void setRuling(int what, int v) {
            switch (what) {
                case RULE_LOAVES:
                    loaves = v;
                    break;
                case RULE_SEATS:
                    seats = v;
                    break;
                case RULE_BOUND:
                    bound = v;
                    break;
                case RULE_LEADS:
                    leads = v;
                    break;
                default:
                    stale = v;
                    break;
            }
        }

        int holders(int ofToken) {
            int set = 0;
            for (int c = 0; c < people; c++) {
                if (token[c] == ofToken) {
                    set |= 1 << c;
                }
            }
            return set;
        }

        int starving() {
            int set = 0;
            for (int c = 0; c < people; c++) {
                if (hunger[c] >= STARVING) {
                    set |= 1 << c;
                }
            }
            return set;
        }

        int allOf(int[] row) {
            int sum = 0;
            for (int c = 0; c < people && c < row.length; c++) {
                sum += row[c];
            }
            return sum;
        }

        int heldSpots() {
            int held = 0;
            for (int s = 0; s < SPOTS; s++) {
                if (spot[s] >= 0) {
                    held++;
                }
            }
            return held;
        }

        int loafWorth(int c) {
            int bread = stale == 1 ? hunger[c] : 2 * hunger[c];
            switch (kind[c]) {
                case HUNGRY:
                    return bread + 4;
                case SELLER:
                    return 3;
                case BOY:
                    return 4;
                default:
                    return bread;
            }
        }

        int seatWorth(int c) {
            boolean ahead = colour[c] == leads;
            switch (kind[c]) {
                case WIDOW:
                case HUNGRY:
                    return 0;
                case FAN:
                    return ahead ? 12 : 1;
                case CLAQUE:
                    return ahead ? 12 : 5;
                case SELLER:
                    return 3;
                case BOY:
                    return 4;
                default:
                    return ahead ? 6 : 2;
            }
        }

        int tokenWorth(int c, int ofToken) {
            if (ofToken == LOAF) {
                return loafWorth(c);
            }
            return ofToken == SEAT ? seatWorth(c) : 0;
        }

        /** Whether the other token is worth more to a citizen that has one. */
        boolean wantsOther(int c) {
            int gain = seatWorth(c) - loafWorth(c);
            return token[c] == LOAF ? gain > 0 : token[c] == SEAT && gain < 0;
        }

        void exchange(int one, int other) {
            int had = token[one];
            token[one] = token[other];
            token[other] = had;
        }

        /**
         * Who has changed wants no more, and who found nobody finds nobody later: so one walk by
         * numbers, with the seats' side never going back, makes the changes of the document.
         */
        int openGates() {
            int made = 0;
            int other = 0;
            for (int one = 0; one < people; one++) {
                if (token[one] == LOAF && wantsOther(one)) {
                    while (other < people && !(token[other] == SEAT && wantsOther(other))) {
                        other++;
                    }
                    if (other < people) {
                        exchange(one, other);
                        made++;
                    }
                }
            }
            return made;
        }

        boolean wouldTrade(int citizen, int from, int v) {
            if (token[citizen] != NO_TOKEN || token[from] == NO_TOKEN) {
                return false;
            }
            if (coin[citizen] < v || coin[from] + v > MOST_COIN) {
                return false;
            }
            return tokenWorth(from, token[from]) < v && v <= tokenWorth(citizen, token[from]);
        }

        void trade(int citizen, int from, int v) {
            exchange(citizen, from);
            coin[citizen] -= v;
            coin[from] += v;
        }

        int allWorth() {
            int sum = 0;
            for (int c = 0; c < people; c++) {
                sum += tokenWorth(c, token[c]);
            }
            return sum;
        }

        /** All have a seat; then the loaves go where they add most. */
        int bestWorth() {
            int sum = 0;
            int withToken = 0;
            for (int c = 0; c < people; c++) {
                if (token[c] != NO_TOKEN) {
                    sum += seatWorth(c);
                    withToken |= 1 << c;
                }
            }
            int loavesToLay = Integer.bitCount(holders(LOAF));
            for (int i = 0; i < loavesToLay; i++) {
                int best = keenestOnLoaf(withToken);
                if (best < people) {
                    sum += loafWorth(best) - seatWorth(best);
                    withToken &= ~(1 << best);
                }
            }
            return sum;
        }

        int keenestOnLoaf(int set) {
            int best = people;
            int most = 0;
            for (int c = 0; c < people; c++) {
                int gain = loafWorth(c) - seatWorth(c);
                if ((set >> c & 1) == 1 && (best == people || gain > most)) {
                    best = c;
                    most = gain;
                }
            }
            return best;
        }

        int preferLoafAt(int v) {
            int prefer = 0;
            for (int c = 0; c < people; c++) {
                if (token[c] != NO_TOKEN && loafWorth(c) + v > seatWorth(c)) {
                    prefer++;
                }
            }
            return prefer;
        }

        int draw() {
            z = z * 1103515245 + 12345;
            return z >>> 8;
        }

        void drawTokens() {
            int loavesLeft = loaves;
            int seatsLeft = seats;
            for (int c = 0; c < people; c++) {
                int left = loavesLeft + seatsLeft;
                if (left <= 0) {
                    token[c] = NO_TOKEN;
                } else if (draw() % left < loavesLeft) {
                    token[c] = LOAF;
                    loavesLeft--;
                } else {
                    token[c] = SEAT;
                    seatsLeft--;
                }
            }
        }

        void eatAndSee() {
            int meal = stale == 1 ? 2 : 3;
            for (int c = 0; c < people; c++) {
                if (token[c] == LOAF) {
                    hunger[c] = Math.max(0, hunger[c] - meal);
                } else {
                    hunger[c] = Math.min(MOST_HUNGER, hunger[c] + 1);
                }
                if (token[c] == SEAT) {
                    joy[c] += seatWorth(c);
                }
            }
        }

        void maybeRiot() {
            if (Integer.bitCount(starving()) < bound) {
                return;
            }
            riots++;
            for (int c = 0; c < people; c++) {
                hunger[c] = Math.min(5, hunger[c]);
            }
        }

        /** One week goes: how many changes there were at the gates. */
        int passWeek() {
            drawTokens();
            int made = openGates();
            eatAndSee();
            maybeRiot();
            leads = draw() % COLOURS;
            for (int c = 0; c < people; c++) {
                token[c] = NO_TOKEN;
            }
            week++;
            return made;
        }

        int passWeeks(int n) {
            int made = 0;
            for (int i = 0; i < n; i++) {
                made += passWeek();
            }
            return made;
        }

        /** Weeks go, n at most, up to the first riot: how many went without one. */
        int calmWeeks(int n) {
            int before = riots;
            for (int i = 0; i < n; i++) {
                passWeek();
                if (riots != before) {
                    return i;
                }
            }
            return n;
        }

        int drawers() {
            return Math.min(people, loaves + seats);
        }

        boolean canDeal(int set) {
            int withLoaf = Integer.bitCount(set);
            return withLoaf <= loaves && drawers() - withLoaf <= seats;
        }

        void deal(int set) {
            int drawing = drawers();
            for (int c = 0; c < people; c++) {
                if (c >= drawing) {
                    token[c] = NO_TOKEN;
                } else {
                    token[c] = (set >> c & 1) == 1 ? LOAF : SEAT;
                }
            }
        }

        boolean fits(Sheet told) {
            for (int c = 0; c < people && c < told.size; c++) {
                if (token[c] != told.numbers[c]) {
                    return false;
                }
            }
            return true;
        }

        void strike() {
            if (people <= 0) {
                return;
            }
            int struck = draw() % people;
            hunger[struck] = draw() % 10;
        }
    }

    /** The bytes of a text, and the token of it that was read latest. */
    private static final class Tape {
        static final int END = 0;
        static final int WORD = 1;
        static final int NUMBER = 2;
        static final int SIGN = 3;
        static final int STRAY = 4;

        final int[] bytes = new int[LONGEST_TAPE];
        int length = 0;
        int start = 0;
        int end = 0;
        int sort = END;
        int value = 0;

        void append(int b) {
            if (length < LONGEST_TAPE) {
                bytes[length] = b;
                length++;
            }
        }

        void rewind() {
            start = 0;
            end = 0;
            sort = END;
        }

        void advance() {
            start = end;
            while (start < length && bytes[start] == ' ') {
                start++;
            }
            end = start;
            if (start >= length) {
                sort = END;
            } else if (isLetter(bytes[start])) {
                readWord();
            } else if (isDigit(bytes[start])) {
                readNumber();
            } else {
                sort = bytes[start] == ';' ? SIGN : STRAY;
                end = start + 1;
            }
        }

        void readWord() {
            sort = WORD;
            while (end < length && isLetter(bytes[end])) {
                end++;
            }
        }

        /** What is above all numbers that are told stays so, however many digits follow. */
        void readNumber() {
            sort = NUMBER;
            value = 0;
            while (end < length && isDigit(bytes[end])) {
                value = Math.min(MOST_COIN + 1, 10 * value + bytes[end] - '0');
                end++;
            }
        }

        static boolean isLetter(int b) {
            return b >= 'a' && b <= 'z';
        }

        static boolean isDigit(int b) {
            return b >= '0' && b <= '9';
        }

        boolean isWord(String word) {
            if (sort != WORD || end - start != word.length()) {
                return false;
            }
            for (int i = 0; i < word.length(); i++) {
                if (bytes[start + i] != word.charAt(i)) {
                    return false;
                }
            }
            return true;
        }

        int kindTold() {
            for (int kind = 0; kind < KINDS; kind++) {
                if (isWord(kindWord(kind))) {
                    return kind;
                }
            }
            return -1;
        }

        static String kindWord(int kind) {
            switch (kind) {
                case WIDOW:
                    return "widow";
                case FAN:
                    return "fan";
                case CLAQUE:
                    return "claque";
                case HUNGRY:
                    return "hungry";
                case SELLER:
                    return "seller";
                case BOY:
                    return "boy";
                default:
                    return "citizen";
            }
        }
    }

    /** A row of numbers; of no bits: missing. */
    private static final class Sheet {
        final int[] numbers = new int[LONGEST_SHEET];
        int bits = 0;
        int size = 0;

        void renew(int ofBits, int n) {
            bits = ofBits;
            size = n;
            for (int i = 0; i < LONGEST_SHEET; i++) {
                numbers[i] = 0;
            }
        }

        void put(int i, int v) {
            if (i < 0 || i >= size) {
                return;
            }
            switch (bits) {
                case 8:
                    numbers[i] = (byte) v;
                    break;
                case 16:
                    numbers[i] = (short) v;
                    break;
                default:
                    numbers[i] = v;
                    break;
            }
        }

        /** Whether it has n numbers from one on; a difference, as a sum could run over. */
        boolean spans(int from, int n) {
            return from >= 0 && n >= 0 && n <= size && from <= size - n;
        }
    }
}
