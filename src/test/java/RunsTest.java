import java.lang.reflect.Method;
import java.util.ArrayList;
import java.util.List;

/** Whole runs of 512 calls, each answer beside that of PlainGames, the document once more. */
public final class RunsTest {
    /** Each call with what its arguments are of (=5: it is 5); those that stand twice are made more often. */
    private static final String[] CALLS = {"citizen kind", "of who what", "change who what value",
        "change who what value", "change who =5 small", "rule rule value", "rule rule value", "now what", "wants who",
        "swap who who", "swap who who", "gates", "changes", "buy who who price", "buy who who price", "welfare",
        "most", "price", "weeks weeks", "weeks weeks", "ahead weeks ahead", "riot", "next who", "loaves weeks",
        "cheapest weeks", "leader weeks", "colourFor who weeks", "kindFor who weeks", "stale weeks", "bound weeks",
        "law kind weeks", "ways", "eats who", "busy changes", "famine weeks", "seed any", "feed any bytes", "wipe",
        "text", "hold spot who", "hold spot who", "as spot kind", "as spot kind",
        "sheet sheet bits size", "write sheet place small", "write sheet place small", "write sheet place any",
        "copy sheet place sheet place place", "load sheet", "tally sheet", "judge sheet", "image", "undo", "tear",
        "count what", "status status"};
    private static final int[] FAR = {Integer.MIN_VALUE, Integer.MIN_VALUE + 1, -1000001, -2, -1, 7, 8, 10, 11, 40,
        41, 60, 61, 99, 100, 255, 9999, 10000, 65536, Integer.MAX_VALUE - 1, Integer.MAX_VALUE};
    private static final String[] WORDS = {"citizen", "widow", "fan", "claque", "hungry", "seller", "boy", "hunger",
        "colour", "coin", "loaf", "seat", "loaves", "seats", "bound", "leads", "stale", "fresh", ";", ";", ";", " ",
        "  ", "0", "3", "9", "10", "11", "9999", "10000", "04", "fans", "X", "\n", "\u00ff", "-"};

    private final Cities by;
    private final BreadGames x = new BreadGames();
    private final PlainGames p = new PlainGames();
    private final StringBuilder told = new StringBuilder();
    private int calls = 0;
    private boolean wrong = false;

    private RunsTest(int seed) {
        by = new Cities(seed);
    }

    public static void main(String[] args) throws ReflectiveOperationException {
        int runs = args.length > 1 ? Integer.parseInt(args[1]) : 150;
        for (int seed = 1; seed <= runs; seed++) {
            new RunsTest(seed).go(seed);
        }
        Checks.end("RunsTest");
    }

    private void go(int seed) throws ReflectiveOperationException {
        for (int i = 0; i < seed % 4; i++) {
            text();
        }
        for (int s = seed % 5; s < 4; s++) {
            call("sheet", s, s < 3 ? 8 : 32, by.pick(9));
        }
        for (int i = 0; i < 16 && seed % 3 == 0; i++) {
            call("weeks", 60 - by.pick(3));
        }
        while (calls < 512 && !wrong) {
            int sort = by.pick(100);
            if (sort == 0) {
                text();
            } else if (sort < 3) {
                handOut();
            } else if (sort == 3) {
                tellRiots();
            } else {
                any();
            }
        }
        if (wrong) {
            System.out.println("run " + seed + ":" + told);
        }
    }

    private void any() throws ReflectiveOperationException {
        String[] call = CALLS[by.pick(CALLS.length)].split(" ");
        int[] v = new int[call.length - 1];
        for (int i = 0; i < v.length; i++) {
            v[i] = by.pick(25) == 0 ? FAR[by.pick(FAR.length)] : argument(call[i + 1]);
        }
        call(call[0], v);
    }

    /** Tokens, as each week takes all of them away, what makes them worth more or less, and trade. */
    private void handOut() throws ReflectiveOperationException {
        for (int more = by.pick(9) - x.count(1); more > 0; more--) {
            call("citizen", by.pick(7));
        }
        for (int c = 0; c < x.count(1); c++) {
            call("change", c, 5, by.pick(3));
            call("change", c, 1, by.pick(10));
            if (by.pick(2) == 0) {
                call("change", c, 2, x.now(2));
            }
        }
        String[] asked = {"changes", "price", "most", "welfare"};
        for (int i = 0; i < 4; i++) {
            call("swap", argument("who"), argument("who"));
            call("buy", argument("who"), argument("who"), argument("price"));
            call(asked[i]);
        }
        call(by.pick(2) == 0 ? "gates" : "changes");
    }

    /** Numbers of which all or all but one are the riots that there will be. */
    private void tellRiots() throws ReflectiveOperationException {
        int n = by.pick(6);
        call("sheet", 1, 16, n);
        for (int i = 0; i < n && x.now(0) + i < 999; i++) {
            call("write", 1, i, x.now(1) + x.ahead(1 + i, 0) + by.pick(9) / 8);
            p.ahead(1 + i, 0);
        }
        call("judge", 1);
    }

    private int argument(String of) {
        if (of.charAt(0) == '=') {
            return of.charAt(1) - '0';
        }
        switch (of) {
            case "kind": return by.pick(8);
            case "who": return by.pick(12) == 0 ? 11 - by.pick(13) : by.pick(Math.max(1, x.count(1)));
            case "what": return by.pick(10) - 1;
            case "value": return by.pick(by.pick(4) == 0 ? 12 : 4);
            case "rule": return by.pick(6);
            case "price": return 1 + by.pick(16);
            case "weeks": return by.pick(by.pick(6) == 0 ? 62 : 14);
            case "ahead": return by.pick(15) - 1;
            case "changes": return by.pick(by.pick(5) == 0 ? 32 : 6);
            case "bytes": return by.pick(6);
            case "spot": return by.pick(11);
            case "sheet": return by.pick(by.pick(6) == 0 ? 6 : 2) - by.pick(6) / 5;
            case "bits": return 8 * (by.pick(3) == 0 ? by.pick(5) : 1 + by.pick(2));
            case "size": return by.pick(by.pick(3) == 0 ? 42 : 6) - by.pick(9) / 8;
            case "place": return by.pick(by.pick(3) == 0 ? 42 : 6) - by.pick(12) / 11;
            case "small": return by.pick(4);
            case "status": return by.pick(9) - 1;
            default: return by.pick(1 << 22) * 1031 - (1 << 31);
        }
    }

    /** Most are texts; some have one word put in, taken out or changed. */
    private void text() throws ReflectiveOperationException {
        List<String> words = new ArrayList<>();
        int items = 1 + by.pick(6);
        for (int i = 0; i < items; i++) {
            if (i > 0) {
                words.add(";");
            }
            item(words);
        }
        if (by.pick(3) == 0) {
            int at = by.pick(words.size());
            int sort = by.pick(3);
            if (sort > 0) {
                words.remove(at);
            }
            if (sort < 2) {
                words.add(at, WORDS[by.pick(WORDS.length)]);
            }
        }
        if (by.pick(8) > 0) {
            call("wipe");
        }
        StringBuilder bytes = new StringBuilder();
        boolean close = by.pick(4) == 0;
        for (String word : words) {
            boolean apart = bytes.length() > 0 && (!close || by.pick(8) == 0);
            bytes.append(apart ? " " : "").append(word);
        }
        for (int i = 0; i < bytes.length();) {
            int n = Math.min(by.pick(9) == 0 ? 1 + by.pick(4) : 4, bytes.length() - i);
            int all = by.pick(256);
            for (int end = i + n; i < end; i++) {
                all = all << 8 | bytes.charAt(i);
            }
            call("feed", all, n);
        }
        call("text");
    }

    private void item(List<String> words) {
        int sort = by.pick(12);
        if (sort < 6) {
            words.add(WORDS[by.pick(7)]);
            maybe(words, "hunger", by.pick(10));
            maybe(words, "colour", by.pick(4));
            maybe(words, "coin", by.pick(200));
            if (by.pick(2) == 0) {
                words.add(by.pick(2) == 0 ? "loaf" : "seat");
            }
        } else if (sort < 10) {
            words.add(WORDS[12 + by.pick(4)]);
            words.add("" + (1 + by.pick(by.pick(9) == 0 ? 12 : 3)));
        } else {
            words.add(by.pick(2) == 0 ? "stale" : "fresh");
        }
    }

    private void maybe(List<String> words, String word, int v) {
        if (by.pick(2) == 0) {
            words.add(word);
            words.add("" + v);
        }
    }

    private void call(String name, int... v) throws ReflectiveOperationException {
        if (calls == 512 || wrong) {
            return;
        }
        calls++;
        Class<?>[] types = new Class<?>[v.length];
        Object[] args = new Object[v.length];
        for (int i = 0; i < v.length; i++) {
            types[i] = int.class;
            args[i] = v[i];
        }
        Method one = BreadGames.class.getMethod(name, types);
        Method other = PlainGames.class.getMethod(name, types);
        long got = ((Number) one.invoke(x, args)).longValue();
        long want = ((Number) other.invoke(p, args)).longValue();
        String call = name + java.util.Arrays.toString(v);
        told.append(' ').append(call).append('=').append(got);
        Checks.due(call, got, want);
        wrong = got != want;
    }
}
