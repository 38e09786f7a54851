/** Promises 43 to 47. */
public final class ImagesTest {
    public static void main(String[] args) {
        imageAndUndo();
        notKept();
        imageOfNobody();
        findingsStay();
        latest();
        tear();
        count();
        status();
        statusOfEachFinding();
        Checks.end("ImagesTest");
    }

    private static void imageAndUndo() {
        BreadGames x = Checks.city("citizen hunger 5 colour 1 coin 3 seat; boy hunger 8 loaf; fan",
                "loaves 2; seats 6; bound 1; leads 1; stale");
        x.seed(42);
        x.weeks(7);
        x.hold(2, 1);
        x.change(1, 5, 1);
        String before = Checks.portrait(x);
        Checks.due("43: one", x.image(), 1);
        for (int round = 0; round < 3; round++) {
            x.weeks(9);
            Checks.read(x, "widow; loaves 9; seats 9; bound 9; leads 2; fresh");
            x.change(0, 0, 3);
            x.change(1, 2, 3);
            x.change(2, 3, 77);
            x.change(2, 5, 2);
            x.hold(2, -1);
            x.hold(5, 3);
            x.famine(4);
            Checks.holds("43: it is another city", !before.equals(Checks.portrait(x)));
            Checks.due("44: week", x.undo(), 7);
            Checks.holds("44: it is as it was", before.equals(Checks.portrait(x)));
            Checks.due("44: the spot, too", x.as(2, 5), 1);
            Checks.due("44: and nothing in the other", x.as(5, 0), Checks.MISSING);
        }
    }

    private static void notKept() {
        BreadGames x = Checks.city("boy; boy");
        x.sheet(0, 8, 2);
        x.write(0, 0, 4);
        Checks.put(x, "fa");
        x.image();
        Checks.put(x, "n");
        x.write(0, 0, 6);
        x.sheet(1, 8, 1);
        x.undo();
        Checks.due("43: the tape is not kept", x.count(5), 3);
        Checks.due("43: nor are its bytes", x.text(), 1);
        Checks.due("43: sheets are not kept", x.load(0), 2);
        Checks.due("43: nor are their numbers", x.of(0, 1), 6);
        Checks.due("43: one that came stays", x.write(1, 0, 1), 1);
    }

    private static void imageOfNobody() {
        BreadGames x = new BreadGames();
        String before = Checks.portrait(x);
        Checks.due("43: nobody is kept", x.image(), 1);
        Checks.read(x, "fan hunger 9 colour 2 coin 5 loaf; boy; loaves 9; stale");
        x.hold(9, 0);
        x.weeks(60);
        x.change(0, 5, 2);
        Checks.due("44: week 0", x.undo(), 0);
        Checks.holds("44: nobody again", before.equals(Checks.portrait(x)));
        Checks.due("44: nobody to tell of", x.of(0, 0), Checks.BEYOND);
        Checks.due("44: nobody to hold", x.hold(0, 0), Checks.BEYOND);
        Checks.due("44: nothing is held", x.as(9, 0), Checks.MISSING);
        Checks.due("2: a new one has the first number", x.citizen(1), 0);
        int[] first = {1, 3, 0, 10, 0, 0};
        for (int what = 0; what < first.length; what++) {
            Checks.due("2: all as at first, " + what, x.of(0, what), first[what]);
        }
        BreadGames ten = Checks.city("boy; boy; boy; boy; boy; boy; boy; boy; boy");
        ten.image();
        ten.citizen(0);
        Checks.due("2: full", ten.citizen(0), Checks.FULL);
        ten.undo();
        Checks.due("2: room again", ten.citizen(0), 9);
    }

    /** What was found stays found, whatever is taken back, read or torn. */
    private static void findingsStay() {
        BreadGames x = new BreadGames();
        x.image();
        x.wants(0);
        x.price();
        x.famine(1);
        x.tally(0);
        Checks.due("44: back", x.undo(), 0);
        int[] due = {1, 0, 0, 1, 1, 1, 0};
        for (int which = 0; which < 7; which++) {
            Checks.due("47: of " + which, x.status(which), due[which]);
        }
        Checks.due("47: all", x.status(-1), 4);
        Checks.due("45: torn", x.tear(), 1);
        Checks.due("44: nothing is kept", x.undo(), Checks.NONE);
        Checks.due("47: that counts, too", x.status(3), 2);
        Checks.due("34: a fault", Checks.read(x, "x"), -1);
        Checks.due("45: nothing to tear", x.tear(), 0);
        Checks.due("46: z of LOW", x.seed(-1000001), 1);
        Checks.due("46: z of LOW", x.count(6), -1000001);
        Checks.due("31: z of LOW", x.seed(1), -1000001);
        Checks.due("47: none of these counts", x.status(-1), 5);
        Checks.due("43: an image is kept anew", x.image(), 1);
        Checks.due("44: and found", x.undo(), 0);
    }

    private static void latest() {
        BreadGames x = new BreadGames();
        x.image();
        x.weeks(2);
        x.image();
        x.weeks(3);
        Checks.due("44: the latest", x.undo(), 2);
        Checks.due("44: which stays", x.undo(), 2);
        x.citizen(0);
        Checks.due("44: and again", x.undo(), 2);
        Checks.due("44: nobody", x.count(1), 0);
    }

    private static void tear() {
        BreadGames x = new BreadGames();
        Checks.due("44: nothing is kept", x.undo(), Checks.NONE);
        Checks.due("45: nothing was", x.tear(), 0);
        x.image();
        x.weeks(1);
        x.image();
        Checks.due("45: something was", x.tear(), 1);
        Checks.due("45: nothing is now", x.tear(), 0);
        x.weeks(1);
        Checks.due("44: nothing is kept now", x.undo(), Checks.NONE);
        Checks.due("44: nothing has changed", x.now(0), 2);
    }

    private static void count() {
        BreadGames x = Checks.city("citizen hunger 5 colour 1 coin 3 seat; boy hunger 8 coin 9999; fan hunger 0",
                "loaves 0; seats 10; leads 1; bound 9");
        x.hold(4, 0);
        x.hold(5, 0);
        x.hold(0, 2);
        Checks.put(x, "loaves");
        Checks.due("46: week", x.count(0), 0);
        Checks.due("46: citizens", x.count(1), 3);
        Checks.due("46: hunger", x.count(2), 13);
        Checks.due("46: coin", x.count(3), 3 + 9999 + 10);
        Checks.due("46: joy", x.count(4), 0);
        Checks.due("46: tape", x.count(5), 6);
        Checks.due("46: z", x.count(6), 1);
        Checks.due("46: spots", x.count(7), 3);
        x.weeks(1);
        Checks.due("46: joy", x.count(4), 6 + 4 + 1);
        Checks.due("46: week", x.count(0), 1);
        x.seed(-5000000);
        Checks.due("46: z is no finding", x.count(6), -5000000);
        Checks.due("46: none found", x.status(-1), 0);
        Checks.due("46: what 8", x.count(8), Checks.BEYOND);
        Checks.due("46: what -1", x.count(-1), Checks.BEYOND);
        for (int far : Checks.FAR) {
            Checks.due("46: what " + far, x.count(far), Checks.BEYOND);
        }
    }

    private static void status() {
        BreadGames x = new BreadGames();
        Checks.due("47: none", x.status(-1), 0);
        Checks.due("47: 7", x.status(7), Checks.BEYOND);
        Checks.due("47: counted from then on", x.status(0), 1);
        Checks.due("47: -2", x.status(-2), Checks.BEYOND);
        Checks.due("47: counted", x.status(0), 2);
        Checks.due("47: all", x.status(-1), 2);
        x.image();
        x.citizen(9);
        x.undo();
        Checks.due("47: undo takes none back", x.status(0), 3);
        for (int far : Checks.FAR) {
            Checks.due("47: " + far, x.status(far), Checks.BEYOND);
        }
        Checks.due("47: all of them", x.status(-1), 3 + Checks.FAR.length);
        for (int which = 1; which <= 6; which++) {
            Checks.due("47: no other", x.status(which), 0);
        }
    }

    private static void statusOfEachFinding() {
        BreadGames x = Checks.city("boy; boy; boy; boy; boy; boy; boy; boy; boy; boy");
        x.hold(0, 0);
        int[] due = new int[7];
        long[] answers = {x.busy(31), x.citizen(0), x.as(0, 1), x.undo(), x.wants(0), x.tally(0), x.sheet(0, 8, -1),
            x.eats(10), x.price(), x.swap(0, 1), x.judge(3), x.sheet(0, 0, -5), x.as(1, 0)};
        for (long answer : answers) {
            due[(int) (Checks.BEYOND - answer)]++;
        }
        int all = 0;
        for (int which = 0; which < 7; which++) {
            Checks.holds("47: there was one", due[which] > 0);
            Checks.due("47: of " + which, x.status(which), due[which]);
            all += due[which];
        }
        Checks.due("47: all", x.status(-1), all);
    }
}
