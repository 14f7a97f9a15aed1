/** Promises 33 to 35 at their edges, sentence by sentence: breakaways. */
final class BreakawayEdgesTest {
    private static final Due DUE = new Due();
    private static final int FAR = Integer.MAX_VALUE;
    private static final int FAR_BELOW = Integer.MIN_VALUE;
    private static final int[] NO_RIDERS = {FAR_BELOW, -1, 0, 17, FAR};
    private static final int[] NO_SECONDS = {FAR_BELOW, -1, 3601, FAR};
    private static final int[] NO_KM = {FAR_BELOW, -1, 0, 301, FAR};

    public static void main(String[] args) {
        DUE.sentence("m RIDERS go 40000 and (6000 (m - 1) by m, rest dropped) metres in an hour", BreakawayEdgesTest::pace);
        DUE.sentence("33: so many metres from the end (whole ones, rest dropped)", BreakawayEdgesTest::wholeMetres);
        DUE.sentence("33: CAUGHT, if b go faster", BreakawayEdgesTest::ifFaster);
        DUE.sentence("33: and are beside it at the end or ahead of that", BreakawayEdgesTest::besideAtTheEnd);
        DUE.sentence("33: so many seconds (0 to 3600) ahead", BreakawayEdgesTest::secondsAhead);
        DUE.sentence("33: so many km (1 to 300) from the end", BreakawayEdgesTest::kmFromTheEnd);
        DUE.sentence("33: a RIDERS (1 to 16), b RIDERS (1 to 16)", BreakawayEdgesTest::numbersOfRiders);
        DUE.sentence("33: NONE: it can't be.", BreakawayEdgesTest::caughtCannotBe);
        DUE.sentence("34: The least seconds (0 to 3600) ahead by which it is not CAUGHT.", BreakawayEdgesTest::leastSeconds);
        DUE.sentence("34: NONE: by none", BreakawayEdgesTest::heldByNone);
        DUE.sentence("34: NONE: it can't be.", BreakawayEdgesTest::holdsCannotBe);
        DUE.sentence("35: The least b (1 to 16) by whom it is CAUGHT.", BreakawayEdgesTest::leastRiders);
        DUE.sentence("35: NONE: by none", BreakawayEdgesTest::caughtByNone);
        DUE.sentence("35: NONE: it can't be.", BreakawayEdgesTest::chaseCannotBe);
        DUE.close();
    }

    private static int caught(int a, int seconds, int km, int b) {
        return new BunchTimes().caught(a, seconds, km, b);
    }

    private static int holds(int a, int km, int b) {
        return new BunchTimes().holds(a, km, b);
    }

    private static int chase(int a, int seconds, int km) {
        return new BunchTimes().chase(a, seconds, km);
    }

    /** Metres in an hour of 1 to 16 riders. */
    private static final int[] PACES = {40000, 43000, 44000, 44500, 44800, 45000, 45142, 45250, 45333, 45400, 45454, 45500, 45538, 45571,
        45600, 45625};

    /** Where a is caught, of seconds and a way that are long enough to show one metre in an hour more or less. */
    private static void pace() {
        for (int a = 1; a <= 16; a++) {
            for (int b = a + 1; b <= 16; b++) {
                long slow = PACES[a - 1];
                long fast = PACES[b - 1];
                int seconds = holds(a, 300, b) - 1;
                long left = (300000L * 3600 * (fast - slow) - slow * fast * seconds) / (3600 * (fast - slow));
                DUE.same(a + " ahead of " + b, left, caught(a, seconds, 300, b));
                long least = 300000L * 3600 * (fast - slow) / (slow * fast) + 1;
                DUE.same(a + " hold ahead of " + b, least, holds(a, 300, b));
            }
        }
    }

    private static void wholeMetres() {
        // 40000 against 43000: 159.259 metres a second ahead.
        DUE.same("9840.74", 9840, caught(1, 1, 10, 2));
        DUE.same("9681.48", 9681, caught(1, 2, 10, 2));
        DUE.same("5700 and no rest", 5700, caught(1, 27, 10, 2));
        DUE.same("285.18", 285, caught(1, 61, 10, 2));
        DUE.same("125.92", 125, caught(1, 62, 10, 2));
        DUE.same("0.05", 0, caught(2, 23, 5, 12));
        DUE.same("0.98", 0, caught(2, 74, 22, 5));
    }

    private static void ifFaster() {
        for (int n = 1; n <= 16; n++) {
            DUE.none("as fast: " + n, caught(n, 0, 300, n));
            for (int b = 1; b < n; b++) {
                DUE.none(b + " behind " + n, caught(n, 0, 300, b));
            }
            if (n < 16) {
                DUE.same("one more than " + n, 300000, caught(n, 0, 300, n + 1));
            }
        }
    }

    private static void besideAtTheEnd() {
        // 270 seconds are 43000 metres.
        DUE.same("at the end", 0, caught(1, 270, 43, 2));
        DUE.none("a second too late", caught(1, 271, 43, 2));
        DUE.none("a km too late", caught(1, 270, 42, 2));
        DUE.same("a km ahead of the end", 1000, caught(1, 270, 44, 2));
        // 62 seconds are 9874.07 metres, 63 are 10033.33.
        DUE.same("125.92 ahead of it", 125, caught(1, 62, 10, 2));
        DUE.none("33.33 behind it", caught(1, 63, 10, 2));
        // 6 seconds are 955.55 metres, 7 are 1114.81.
        DUE.same("44.44 ahead of it", 44, caught(1, 6, 1, 2));
        DUE.none("behind it", caught(1, 7, 1, 2));
        DUE.same("0.05 ahead of it", 0, caught(2, 23, 5, 12));
        DUE.none("0.06 behind it", caught(1, 2594, 237, 13));
        DUE.none("0.93 behind it", caught(1, 180, 17, 9));
    }

    private static void secondsAhead() {
        DUE.same("0: beside it", 10000, caught(1, 0, 10, 2));
        DUE.none("3600", caught(1, 3600, 300, 16));
        DUE.same("3328 of the most km", 300000 - 299931, caught(1, 3328, 300, 16));
        for (int seconds : NO_SECONDS) {
            DUE.none("seconds " + seconds, caught(1, seconds, 300, 2));
            DUE.none("seconds " + seconds, caught(1, seconds, 300, 16));
        }
    }

    private static void kmFromTheEnd() {
        DUE.same("1", 1000, caught(1, 0, 1, 2));
        DUE.same("300", 300000, caught(1, 0, 300, 2));
        for (int km : NO_KM) {
            DUE.none("km " + km, caught(1, 0, km, 2));
        }
    }

    private static void numbersOfRiders() {
        DUE.same("1 and 2", 1000, caught(1, 0, 1, 2));
        DUE.same("1 and 16", 1000, caught(1, 0, 1, 16));
        DUE.same("15 and 16", 1000, caught(15, 0, 1, 16));
        DUE.none("16 and 16", caught(16, 0, 1, 16));
        DUE.none("1 and 1", caught(1, 0, 1, 1));
    }

    private static void caughtCannotBe() {
        for (int n : NO_RIDERS) {
            DUE.none("a " + n, caught(n, 0, 10, 2));
            DUE.none("a " + n, caught(n, 0, 10, 16));
            DUE.none("b " + n, caught(1, 0, 10, n));
            DUE.none("both " + n, caught(n, 0, 10, n));
        }
        DUE.none("all too many", caught(FAR, FAR, FAR, FAR));
        DUE.none("all too few", caught(FAR_BELOW, FAR_BELOW, FAR_BELOW, FAR_BELOW));
    }

    private static void leastSeconds() {
        DUE.same("62.79", 63, holds(1, 10, 2));
        DUE.same("6.27", 7, holds(1, 1, 2));
        DUE.same("270 and no rest", 271, holds(1, 43, 2));
        DUE.same("as fast", 0, holds(2, 300, 2));
        DUE.same("slower", 0, holds(2, 300, 1));
        DUE.same("one against all, the most km", 3329, holds(1, 300, 16));
        DUE.same("the least there is of faster ones: 0.04", 1, holds(15, 1, 16));
        for (int a = 1; a <= 16; a++) {
            for (int b = 1; b <= 16; b++) {
                int s = holds(a, 17, b);
                DUE.none("by so many it is not caught", caught(a, s, 17, b));
                DUE.yes("by one less it is", b <= a ? s == 0 : s > 0 && caught(a, s - 1, 17, b) >= 0);
            }
        }
    }

    /** 3600 seconds are enough for each that can be: the answer is never NONE for that. */
    private static void heldByNone() {
        int most = 0;
        for (int a = 1; a <= 16; a++) {
            for (int b = 1; b <= 16; b++) {
                int s = holds(a, 300, b);
                DUE.yes("within bounds", s >= 0 && s <= 3600);
                most = Math.max(most, s);
            }
        }
        DUE.same("the most that is needed", 3329, most);
    }

    private static void holdsCannotBe() {
        for (int n : NO_RIDERS) {
            DUE.none("a " + n, holds(n, 10, 2));
            DUE.none("a " + n, holds(n, 10, 16));
            DUE.none("b " + n, holds(1, 10, n));
            DUE.none("b " + n, holds(16, 10, n));
        }
        for (int km : NO_KM) {
            DUE.none("km " + km, holds(1, km, 2));
            DUE.none("km " + km + ", slower ones", holds(2, km, 1));
        }
        DUE.same("km 1", 7, holds(1, 1, 2));
        DUE.same("16 and 16", 0, holds(16, 300, 16));
    }

    private static void leastRiders() {
        DUE.same("two are faster than one", 2, chase(1, 0, 1));
        DUE.same("62 seconds", 2, chase(1, 62, 10));
        DUE.same("63 seconds", 3, chase(1, 63, 10));
        DUE.same("270 seconds, at the end", 2, chase(1, 270, 43));
        DUE.same("271 seconds", 3, chase(1, 271, 43));
        for (int a = 1; a < 16; a++) {
            DUE.same("one more than " + a, a + 1, chase(a, 0, 300));
        }
        DUE.same("all there can be, the most seconds", 16, chase(1, 3328, 300));
        for (int s = 0; s <= 3600; s += 100) {
            int b = chase(1, s, 300);
            DUE.yes("by so many it is caught", b < 0 || caught(1, s, 300, b) >= 0);
            DUE.none("by one less it is not", caught(1, s, 300, b < 0 ? 16 : b - 1));
        }
    }

    private static void caughtByNone() {
        DUE.none("all there can be", chase(16, 0, 300));
        DUE.none("3329 seconds", chase(1, 3329, 300));
        DUE.none("3600 seconds", chase(1, 3600, 300));
        DUE.none("3600 seconds of one km", chase(15, 3600, 1));
    }

    private static void chaseCannotBe() {
        for (int n : NO_RIDERS) {
            DUE.none("a " + n, chase(n, 0, 10));
        }
        for (int seconds : NO_SECONDS) {
            DUE.none("seconds " + seconds, chase(1, seconds, 300));
        }
        for (int km : NO_KM) {
            DUE.none("km " + km, chase(1, 0, km));
        }
        DUE.same("km 300, 0 seconds", 2, chase(1, 0, 300));
        DUE.same("km 1", 16, chase(15, 0, 1));
    }
}
