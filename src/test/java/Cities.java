/** Cities that look arbitrary, the same ones at each run. */
final class Cities {
    private int state;

    Cities(int seed) {
        state = seed * 7919 + 17;
    }

    /** Of 0 to below end. */
    int pick(int end) {
        state = state * 1664525 + 1013904223;
        return (state >>> 10) % end;
    }

    static BreadGames some(int seed) {
        Cities by = new Cities(seed);
        BreadGames x = new BreadGames();
        by.fill(x);
        return x;
    }

    /** One in which LOAVES and SEATS both tell whether there is a riot. */
    static BreadGames uneasy(int seed) {
        Cities by = new Cities(seed);
        BreadGames x = new BreadGames();
        int people = 4 + by.pick(7);
        for (int c = 0; c < people; c++) {
            x.citizen(by.pick(7));
            x.change(c, 1, by.pick(7));
            x.change(c, 2, by.pick(4));
        }
        x.rule(2, 1 + by.pick(3));
        x.rule(4, by.pick(2));
        x.seed(seed * 77777);
        return x;
    }

    private void fill(BreadGames x) {
        int people = pick(11);
        for (int c = 0; c < people; c++) {
            x.citizen(pick(7));
            x.change(c, 1, pick(10));
            x.change(c, 2, pick(4));
            x.change(c, 3, pick(60));
            x.change(c, 5, pick(3));
        }
        x.rule(0, pick(11));
        x.rule(1, pick(11));
        x.rule(2, 1 + pick(5));
        x.rule(3, pick(4));
        x.rule(4, pick(2));
        x.seed(state);
    }
}
