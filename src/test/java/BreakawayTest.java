/** Promises 33 to 35: whether a breakaway is caught and where, how much ahead it must be, and by whom. */
final class BreakawayTest {
    private static final Due DUE = new Due();

    public static void main(String[] args) {
        caught();
        holds();
        chase();
        all();
        DUE.close();
    }

    private static void caught() {
        BunchTimes x = new BunchTimes();
        // 40000 against 43000 metres an hour: 40000 * 43000 / (3600 * 3000) = 159.26 metres for a second.
        DUE.same("beside it", 10000, x.caught(1, 0, 10, 2));
        DUE.same("9840.74", 9840, x.caught(1, 1, 10, 2));
        DUE.same("444.44", 444, x.caught(1, 60, 10, 2));
        // 27 seconds are 4300 metres to the metre, 270 are 43000 of them.
        DUE.same("to the metre", 5700, x.caught(1, 27, 10, 2));
        DUE.same("beside it at the end", 0, x.caught(1, 270, 43, 2));
        DUE.none("a second more", x.caught(1, 271, 43, 2));
        DUE.none("as fast", x.caught(2, 0, 10, 2));
        DUE.none("slower", x.caught(3, 0, 10, 2));
        // 3 riders go 44000, 7 go 45142 (5142.85, rest dropped): 48313.09 metres till then.
        DUE.same("rest of the pace dropped", 300000 - 48314, x.caught(3, 100, 300, 7));
        int[][] wrong = {{0, 10, 10, 2}, {17, 10, 10, 2}, {1, -1, 10, 2}, {1, 3601, 10, 2}, {1, 10, 0, 2}, {1, 10, 301, 2},
            {1, 10, 10, 0}, {1, 10, 10, 17}, {-1, 10, 10, -1}};
        for (int[] w : wrong) {
            DUE.none("it can't be", x.caught(w[0], w[1], w[2], w[3]));
        }
        DUE.same("the most km", 300000, x.caught(1, 0, 300, 16));
        DUE.none("the most seconds", x.caught(15, 3600, 300, 16));
    }

    private static void holds() {
        BunchTimes x = new BunchTimes();
        DUE.same("62.79", 63, x.holds(1, 10, 2));
        DUE.same("270 is caught", 271, x.holds(1, 43, 2));
        DUE.same("as fast", 0, x.holds(2, 10, 2));
        DUE.same("slower", 0, x.holds(16, 300, 1));
        DUE.same("the most", 3329, x.holds(1, 300, 16));
        int[][] wrong = {{0, 10, 2}, {17, 10, 2}, {1, 0, 2}, {1, 301, 2}, {1, 10, 0}, {1, 10, 17}};
        for (int[] w : wrong) {
            DUE.none("it can't be", x.holds(w[0], w[1], w[2]));
        }
    }

    private static void chase() {
        BunchTimes x = new BunchTimes();
        DUE.same("two", 2, x.chase(1, 60, 10));
        DUE.same("three", 3, x.chase(1, 70, 10));
        DUE.same("one more at 0 seconds", 16, x.chase(15, 0, 1));
        DUE.none("by none", x.chase(16, 0, 1));
        DUE.none("by none", x.chase(1, 3600, 300));
        int[][] wrong = {{0, 10, 10}, {17, 10, 10}, {1, -1, 10}, {1, 3601, 10}, {1, 10, 0}, {1, 10, 301}};
        for (int[] w : wrong) {
            DUE.none("it can't be", x.chase(w[0], w[1], w[2]));
        }
    }

    /** holds() is where caught() ends, chase() where it begins, for all numbers of riders. */
    private static void all() {
        for (int a = 1; a <= 16; a++) {
            BunchTimes x = new BunchTimes();
            for (int b = 1; b <= 16; b++) {
                for (int km : new int[] {1, 7, 100, 300}) {
                    int s = x.holds(a, km, b);
                    DUE.none("holds", x.caught(a, s, km, b));
                    DUE.yes("not before", s == 0 || x.caught(a, s - 1, km, b) >= 0);
                    DUE.yes("chase", s == 0 || x.chase(a, s - 1, km) <= b && x.chase(a, s - 1, km) >= 1);
                }
            }
        }
    }
}
