/** Promises 32 to 34. */
public final class TextsTest {
    public static void main(String[] args) {
        feed();
        feedWrong();
        feedUpTo120();
        wipe();
        textCitizens();
        textRules();
        textBlanks();
        textOf120();
        faults();
        faultsOfNumbers();
        faultsOfLongTokens();
        faultsOfEachEnd();
        tooManyCitizens();
        faultChangesNothing();
        Checks.end("TextsTest");
    }

    private static void feed() {
        BreadGames x = new BreadGames();
        Checks.due("32: one", x.feed('b', 1), 1);
        Checks.due("32: two, the highest first", x.feed('o' << 8 | 'y', 2), 3);
        Checks.due("32: three", x.feed(';' << 16 | 'f' << 8 | 'a', 3), 6);
        Checks.due("32: four", x.feed('n' << 24 | ' ' << 16 | ';' << 8 | 'b', 4), 10);
        Checks.due("32: the lowest byte alone", x.feed(0x41424300 | 'o', 1), 11);
        Checks.due("32: the lowest two alone", x.feed(0x80410000 | 'y' << 8 | ' ', 2), 13);
        Checks.due("32: count", x.count(5), 13);
        Checks.due("32: they are the text", x.text(), 3);
        Checks.due("32: the first", x.of(0, 0), 6);
        Checks.due("32: the second", x.of(1, 0), 2);
        Checks.due("32: empty now", x.count(5), 0);
    }

    private static void feedWrong() {
        BreadGames x = new BreadGames();
        for (int n : new int[] {0, 5, -1}) {
            Checks.due("32: n " + n, x.feed(1, n), Checks.BEYOND);
        }
        for (int far : Checks.FAR) {
            Checks.due("32: n " + far, x.feed(1, far), Checks.BEYOND);
        }
        for (int i = 1; i <= 29; i++) {
            Checks.due("32: so far", x.feed(0x20202020, 4), 4 * i);
        }
        x.feed(' ', 1);
        Checks.due("32: 117 and 4", x.feed(0, 4), Checks.FULL);
        Checks.due("32: 117 yet", x.count(5), 117);
        Checks.due("32: 117 and 3", x.feed(0, 3), 120);
        Checks.due("32: full", x.feed(0, 1), Checks.FULL);
        Checks.due("32: beyond before full", x.feed(0, 5), Checks.BEYOND);
        Checks.due("32: 120 yet", x.count(5), 120);
        Checks.due("34: the first byte that begins none", x.text(), -1 - 117);
    }

    private static void feedUpTo120() {
        for (int n = 1; n <= 4; n++) {
            BreadGames x = new BreadGames();
            for (int had = n; had <= 120; had += n) {
                Checks.due("32: " + n + " each", x.feed(-1, n), had);
            }
            Checks.due("32: no more of " + n, x.feed(-1, n), Checks.FULL);
            Checks.due("32: nor of one, " + n, x.feed(-1, 1), Checks.FULL);
            Checks.due("32: 120 of " + n, x.count(5), 120);
            Checks.due("32: two full, " + n, x.status(1), 2);
            Checks.due("33: 120 of " + n, x.wipe(), 120);
            Checks.due("32: there is room now", x.feed(-1, n), n);
            Checks.due("34: 255 begins nothing", x.text(), -1);
        }
        BreadGames y = new BreadGames();
        Checks.put(y, blanks(118) + "b");
        Checks.due("32: too much by one", y.feed('o' << 8 | 'y', 2), Checks.FULL);
        Checks.due("32: none of them came", y.feed('x', 1), 120);
        Checks.due("34: so the word is bx", y.text(), -1 - 118);
    }

    private static String blanks(int n) {
        return " ".repeat(n);
    }

    private static void wipe() {
        BreadGames x = new BreadGames();
        Checks.due("33: nothing", x.wipe(), 0);
        Checks.put(x, "widow #");
        Checks.due("33: seven", x.wipe(), 7);
        Checks.due("33: empty", x.count(5), 0);
        Checks.due("33: nothing is left of it", Checks.read(x, "fan"), 1);
        Checks.due("33: one fan", x.of(0, 0), 2);
        Checks.due("33: one", x.count(1), 1);
    }

    private static void textCitizens() {
        String[] words = {"citizen", "widow", "fan", "claque", "hungry", "seller", "boy"};
        for (int kind = 0; kind < 7; kind++) {
            BreadGames x = new BreadGames();
            Checks.due("34: " + words[kind], Checks.read(x, words[kind]), 1);
            int[] first = {kind, 3, 0, 10, 0, 0};
            for (int what = 0; what < 6; what++) {
                Checks.due("34: " + words[kind] + " " + what, x.of(0, what), first[what]);
            }
            Checks.due("34: all of it", Checks.read(x, words[kind]
                    + " hunger 9 colour 3 coin 9999 loaf"), 1);
            Checks.due("34: part of it", Checks.read(x, words[kind] + " colour 2 seat"), 1);
            int[][] due = {{kind, 9, 3, 9999, 0, 1}, {kind, 3, 2, 10, 0, 2}};
            for (int what = 0; what < 6; what++) {
                Checks.due("34: 1, " + what, x.of(1, what), due[0][what]);
                Checks.due("34: 2, " + what, x.of(2, what), due[1][what]);
            }
        }
        BreadGames y = Checks.city("fan hunger 0 coin 0; boy coin 77; boy hunger 1 loaf");
        Checks.due("34: hunger 0", y.of(0, 1), 0);
        Checks.due("34: coin 0", y.of(0, 3), 0);
        Checks.due("34: coin 77", y.of(1, 3), 77);
        Checks.due("34: loaf", y.of(2, 5), 1);
    }

    private static void textRules() {
        BreadGames x = new BreadGames();
        Checks.due("34: six", Checks.read(x, "loaves 10; seats 0; bound 1; leads 3; stale; citizen"), 6);
        int[] due = {10, 0, 1, 3, 1};
        for (int what = 0; what < 5; what++) {
            Checks.due("34: rule " + what, x.rule(what, due[what]), due[what]);
        }
        Checks.due("34: item by item", Checks.read(x, "loaves 0; loaves 7; fresh; stale; fresh; bound 10;"
                + "seats 10; leads 0"), 8);
        int[] then = {7, 10, 10, 0, 0};
        for (int what = 0; what < 5; what++) {
            Checks.due("34: then " + what, x.rule(what, then[what]), then[what]);
        }
    }

    private static void textBlanks() {
        BreadGames x = new BreadGames();
        Checks.due("34: none where none is needed",
                Checks.read(x, "fan hunger4colour2coin7loaf;boy coin5seat;leads3;stale"), 4);
        int[] due = {2, 4, 2, 7, 0, 1};
        for (int what = 0; what < 6; what++) {
            Checks.due("34: of " + what, x.of(0, what), due[what]);
        }
        Checks.due("34: many", Checks.read(x, "   boy   hunger   0   ;    seats   0003  "), 2);
        Checks.due("34: seats", x.rule(1, 5), 3);
        Checks.due("34: zeros before a number", Checks.read(x, "bound 00000000000000000000007"), 1);
        Checks.due("34: bound", x.rule(2, 7), 7);
    }

    private static void textOf120() {
        BreadGames x = new BreadGames();
        Checks.due("34: 20 items", Checks.read(x, "stale;".repeat(19) + "fresh "), 20);
        Checks.due("34: the last tells", x.rule(4, 0), 0);
        Checks.due("34: 20 items and no more", Checks.read(x, "stale;".repeat(20)), -1 - 120);
        Checks.due("34: not stale then", x.rule(4, 0), 0);
        Checks.due("34: the last three bytes", Checks.read(x, blanks(117) + "boy"), 1);
        Checks.due("34: a boy", x.of(0, 0), 6);
        Checks.due("34: the last byte", Checks.read(x, blanks(119) + "x"), -1 - 119);
        Checks.due("34: blanks alone", Checks.read(x, blanks(120)), -1 - 120);
        Checks.due("34: a number's end", Checks.read(x, blanks(112) + "leads 03"), 1);
        Checks.due("34: leads", x.now(2), 3);
        Checks.due("34: a number of many zeros", Checks.read(x, "bound " + "0".repeat(113) + "9"), 1);
        Checks.due("34: bound", x.rule(2, 3), 9);
        Checks.due("34: a number of many digits", Checks.read(x, "bound " + "9".repeat(114)), -1 - 6);
        Checks.due("34: a word of many letters", Checks.read(x, "boy" + "y".repeat(117)), -1);
        Checks.due("34: one boy", x.count(1), 1);
    }

    private static void faults() {
        fault("", 0);
        fault("   ", 3);
        fault(";", 0);
        fault("fan;", 4);
        fault("fan;  ", 6);
        fault("fan;;fan", 4);
        fault("fan fan", 4);
        fault("fan loaf seat", 9);
        fault("fan loaf loaf", 9);
        fault("fan loaf hunger 3", 9);
        fault("fan colour 1 hunger 3", 13);
        fault("fan coin 1 colour 3", 11);
        fault("fan coin 1 hunger 3", 11);
        fault("fan hunger 1 hunger 3", 13);
        fault("fan 3", 4);
        fault("3", 0);
        fault("hunger 3", 0);
        fault("loaf", 0);
        fault("seat", 0);
        fault("fans", 0);
        fault("fa", 0);
        fault("fan loafs", 4);
        fault("fan seats", 4);
        fault("stale 1", 6);
        fault("fresh;stale fresh", 12);
        fault("loaves 3 4", 9);
        fault("loaves ; seats 3", 7);
        fault("seats", 5);
        fault("leads   ", 8);
        fault("fan hunger", 10);
        fault("fan hunger ;", 11);
        fault("fan hunger loaf", 11);
        fault("Fan", 0);
        fault("fan#", 3);
        fault("fan\tloaf", 3);
        fault("fan\n", 3);
        fault("fan \u00e9", 4);
        fault("fan \u00ff", 4);
        fault("\u0000", 0);
        fault("fan hunger -1", 11);
        fault("fan:", 3);
        fault("fan hunger 3/", 12);
        fault("fan{", 3);
        fault("fan`", 3);
        fault("fan hunger 3:", 12);
    }

    private static void faultsOfNumbers() {
        fault("loaves 11", 7);
        fault("seats 11", 6);
        fault("bound 0", 6);
        fault("bound 11", 6);
        fault("leads 4", 6);
        fault("fan hunger 10", 11);
        fault("fan colour 4", 11);
        fault("fan coin 10000", 9);
        fault("fan coin 4294967296", 9);
        fault("fan coin 18446744073709551617", 9);
        fault("fan; loaves 4294967297; boy", 12);
    }

    /** Tokens are as long as can be. */
    private static void faultsOfLongTokens() {
        fault("fanloaf", 0);
        fault("fanhunger 3", 0);
        fault("fan hungercolour 3", 4);
        fault("fan hunger 3 4", 13);
        fault("fan hunger 34", 11);
        fault("fan hunger 4fan", 12);
        fault("fan hunger 4loafs", 12);
        fault("stalestale", 0);
        fault("loaves 10 0", 10);
        fault("loaves 100", 7);
        fault("fan coin 99990", 9);
        fault("fan coin 9999 9", 14);
        fault("bound 1 0", 8);
        fault("bound 00", 6);
        fault("fanX", 3);
        fault("fanX loaf", 3);
        fault("fan hunger 3X", 12);
        fault("fan Loaf", 4);
        fault("fan\u0000", 3);
        fault("fan\r", 3);
        fault("fan\u00a0loaf", 3);
        for (String word : "citizen widow fan claque hungry seller boy loaves seats bound leads stale fresh".split(" ")) {
            fault('x' + word.substring(1), 0);
            fault(word.substring(0, word.length() - 1) + 'x', 0);
            fault(word.substring(0, word.length() - 1), 0);
            fault(word + 'x', 0);
        }
        for (String word : "hunger colour coin loaf seat".split(" ")) {
            fault("fan x" + word.substring(1) + " 1", 4);
            fault("fan " + word.substring(0, word.length() - 1) + "x 1", 4);
            fault("fan " + word + "x 1", 4);
        }
    }

    /** A text may end too early at each token; the NUMBER that each asks for has a least and a most. */
    private static void faultsOfEachEnd() {
        String[] asks = {"fan hunger", "fan colour", "fan coin", "loaves", "seats", "bound", "leads"};
        int[] least = {0, 0, 0, 0, 0, 1, 0};
        int[] most = {9, 3, 9999, 10, 10, 10, 3};
        for (int i = 0; i < asks.length; i++) {
            int end = asks[i].length();
            fault(asks[i], end);
            fault(asks[i] + "  ", end + 2);
            fault(asks[i] + ";", end);
            fault(asks[i] + " fan", end + 1);
            fault(asks[i] + " #", end + 1);
            fault(asks[i] + " " + (most[i] + 1), end + 1);
            fault(asks[i] + " " + (most[i] + 1) + "; x", end + 1);
            if (least[i] > 0) {
                fault(asks[i] + " " + (least[i] - 1), end + 1);
            }
            Checks.due("34: " + asks[i] + " the least", Checks.read(new BreadGames(), asks[i] + least[i]), 1);
            Checks.due("34: " + asks[i] + " the most", Checks.read(new BreadGames(), asks[i] + most[i]), 1);
            fault(asks[i] + " " + most[i] + ";", (asks[i] + " " + most[i] + ";").length());
            fault(asks[i] + " " + most[i] + " stale", (asks[i] + " " + most[i] + " ").length());
        }
        fault("stale;", 6);
        fault("fresh  ;  ", 10);
        fault("stale loaf", 6);
        fault("fan loaf;", 9);
        fault("fan seat 1", 9);
    }

    private static void fault(String text, int at) {
        BreadGames x = new BreadGames();
        Checks.due("34: '" + text + "'", Checks.read(x, text), -1 - at);
        Checks.due("34: no finding", x.status(-1), 0);
        Checks.due("34: empty tape", x.count(5), 0);
        Checks.due("34: nobody came", x.count(1), 0);
        Checks.due("34: no other cost", x.now(6), 25);
    }

    private static void tooManyCitizens() {
        BreadGames x = new BreadGames();
        Checks.due("34: ten", Checks.read(x, "boy;boy;boy;boy;boy;boy;boy;boy;boy;boy"), 10);
        Checks.due("34: an 11th", Checks.read(x, "stale; boy hunger 99"), -1 - 7);
        Checks.due("34: rules can stand", Checks.read(x, "loaves 1"), 1);
        BreadGames y = Checks.city("fan; fan; fan; fan; fan; fan; fan; fan; fan");
        Checks.due("34: two more", Checks.read(y, "loaves 1;fan;  widow"), -1 - 15);
        Checks.due("34: none came", y.count(1), 9);
        Checks.due("34: one more", Checks.read(y, "hungry"), 1);
        Checks.due("34: the tenth", y.of(9, 0), 4);
        BreadGames z = Checks.city("fan; fan; fan; fan; fan; fan; fan; fan; fan");
        Checks.due("34: the 11th's own word", Checks.read(z, "boy seat ; boy hunger ; boy"), -1 - 11);
        Checks.due("34: a fault before the 11th", Checks.read(z, "boy seat seat; boy"), -1 - 9);
        Checks.due("34: behind ten a word that is none", Checks.read(z, "boy; boys"), -1 - 5);
        Checks.due("34: ten and a rule", Checks.read(z, "boy; leads 2"), 2);
        Checks.due("34: full", z.citizen(0), Checks.FULL);
    }

    private static void faultChangesNothing() {
        BreadGames x = Checks.city("citizen hunger 5 colour 1 coin 3 seat; boy; loaves 2; stale");
        x.hold(3, 1);
        String before = Checks.portrait(x);
        Checks.due("34: late", Checks.read(x, "fan; hungry loaf; loaves 7; seats 1; bound 9; leads 2; fresh; x"),
                -1 - 62);
        Checks.holds("34: nothing has changed", before.equals(Checks.portrait(x)));
        Checks.due("34: a text goes on from what is", Checks.read(x, "fan"), 1);
        Checks.due("34: as of citizen 0", x.of(0, 1), 5);
        Checks.due("34: what a spot holds", x.as(3, 6), 1);
    }
}
