/** Promises 4 region and 12 kind. */
public final class RegionTest {
    public static void main(String[] args) {
        kinds();
        overlaps();
        edges();
        refusals();
        Check.end();
    }

    private static void kindsAre(String what, TwoWorlds x, int first, int... due) {
        for (int i = 0; i < due.length; i++) {
            Check.same(what + ": kind(" + (first + i) + ")", x.kind(first + i), due[i]);
        }
    }

    private static void kinds() {
        TwoWorlds x = new TwoWorlds();
        Check.yes("open 10 .. 12", x.region(0, 10, 12, 1));
        Check.yes("gates 13 .. 13", x.region(3, 13, 13, 2));
        kindsAre("two regions", x, 9, 0, 1, 1, 1, 2, 0);
        Check.same("kind(266)", x.kind(266), 1);
        Check.same("kind(-243)", x.kind(-243), 2);
        Check.yes("moved", x.region(0, 20, 21, 2));
        kindsAre("where it was", x, 10, 0, 0, 0, 2);
        kindsAre("where it is", x, 19, 0, 2, 2, 0);
        Check.yes("off", x.region(3, 13, 13, 0));
        kindsAre("off", x, 13, 0);
    }

    private static void overlaps() {
        TwoWorlds x = new TwoWorlds();
        x.region(0, 10, 14, 1);
        x.region(1, 14, 16, 1);
        kindsAre("two of one kind", x, 12, 1, 1, 0, 1, 1, 0);
        x.region(2, 12, 15, 2);
        kindsAre("three", x, 10, 1, 1, 0, 0, 0, 0, 1);
        x.region(3, 0, 255, 0);
        kindsAre("one that is off does not count", x, 10, 1, 1, 0, 0, 0, 0, 1);
        x.region(1, 14, 16, 0);
        x.region(2, 12, 15, 0);
        kindsAre("alone again", x, 9, 0, 1, 1, 1, 1, 1, 0);
        x.region(1, 0, 255, 2);
        x.region(2, 0, 255, 2);
        x.region(3, 0, 255, 2);
        kindsAre("three of one kind and one", x, 9, 0, 0, 0);
    }

    private static void edges() {
        TwoWorlds x = new TwoWorlds();
        Check.yes("all", x.region(0, 0, 255, 1));
        kindsAre("all", x, 0, 1, 1);
        kindsAre("all", x, 254, 1, 1, 1);
        Check.yes("first greater than last", x.region(0, 255, 0, 1));
        kindsAre("none", x, 0, 0, 0);
        kindsAre("none", x, 254, 0, 0);
        Check.yes("none, beside one", x.region(1, 4, 4, 2));
        kindsAre("one", x, 3, 0, 2, 0);
    }

    private static void refusals() {
        TwoWorlds x = new TwoWorlds();
        for (int k = 0; k < 4; k++) {
            x.region(k, 4 * k, 4 * k + 1, 1);
        }
        int[][] wrong = {
            {-1, 0, 0, 1}, {4, 0, 0, 1}, {Integer.MIN_VALUE, 0, 0, 1}, {Integer.MAX_VALUE, 0, 0, 1},
            {0, -1, 9, 1}, {0, 256, 9, 1}, {0, 9, 256, 1}, {0, 0, -1, 1}, {0, 9, Integer.MAX_VALUE, 1},
            {0, 0, 9, -1}, {0, 0, 9, 3}, {1, 300, 2, 0}, {1, 0, 300, 0}
        };
        for (int[] w : wrong) {
            Check.no("region(" + w[0] + ", " + w[1] + ", " + w[2] + ", " + w[3] + ")", x.region(w[0], w[1], w[2], w[3]));
        }
        kindsAre("after refusals", x, 0, 1, 1, 0, 0, 1, 1, 0, 0, 1, 1, 0, 0, 1, 1, 0, 0, 0);
    }
}
