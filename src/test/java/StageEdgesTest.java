import java.util.Arrays;

/** Promises 22 to 27 at their edges, sentence by sentence, and the terms on which they rest: order, bunches, times, limits. */
final class StageEdgesTest {
    private static final Due DUE = new Due();
    private static final int FAR = Integer.MAX_VALUE;
    private static final int FAR_BELOW = Integer.MIN_VALUE;

    public static void main(String[] args) {
        DUE.sentence("ORDER: those with a FINISH, by that, of like ones by number", StageEdgesTest::order);
        DUE.sentence("BUNCHES: one begins with each whose FINISH is GAP or more behind that of the one ahead", StageEdgesTest::gapOrMore);
        DUE.sentence("BUNCHES: (in a TRIAL: with each)", StageEdgesTest::eachInATrial);
        DUE.sentence("RAW: the FINISH of his BUNCH's first, in whole seconds (rest dropped)", StageEdgesTest::wholeSeconds);
        DUE.sentence("On FLAT and HILLS a MISHAP COUNTS", StageEdgesTest::onFlatAndHills);
        DUE.sentence("a MISHAP at ZONE km or less from the end COUNTS", StageEdgesTest::zoneOrLess);
        DUE.sentence("TIME: the least RAW of himself and of the one he was WITH", StageEdgesTest::leastRaw);
        DUE.sentence("TIME: as long as the MISHAP of the one come to COUNTS, and so on", StageEdgesTest::asLongAsItCounts);
        DUE.sentence("TIME: (if that one has a FINISH)", StageEdgesTest::ifThatOneHasAFinish);
        DUE.sentence("TIME: (till one comes to somebody again)", StageEdgesTest::tillOneComesAgain);
        DUE.sentence("BEST: the least TIME", StageEdgesTest::best);
        DUE.sentence("SPEED: LENGTH times 3600 by BEST (0: by 1), rest dropped", StageEdgesTest::speed);
        DUE.sentence("LIMIT: so many hundredths of it (rest dropped): by KIND 7, 10, 15, 30", StageEdgesTest::limitByKind);
        DUE.sentence("LIMIT: one more for each whole 2 km by which SPEED is above 38", StageEdgesTest::limitBySpeed);
        DUE.sentence("LIMIT: 10 more at most", StageEdgesTest::tenMoreAtMost);
        DUE.sentence("LATE is whose TIME is above LIMIT", StageEdgesTest::aboveLimit);
        DUE.sentence("LATE: without GRACE", StageEdgesTest::withoutGrace);
        DUE.sentence("If five times the LATE ones are more than all with a FINISH, they are PARDONED", StageEdgesTest::fiveTimes);
        DUE.sentence("PARDONED: they stay IN, else they are OUT", StageEdgesTest::inOrOut);
        DUE.sentence("22: 8: whether they were PARDONED (1, 0; 0 without)", StageEdgesTest::pardonedWithout);
        DUE.sentence("22: 9: those for whom TIME is less than RAW, 10: by how much, together", StageEdgesTest::lessThanRaw);
        DUE.sentence("22: NONE for another what, too", StageEdgesTest::anotherTold);
        DUE.sentence("22 to 27: a stage that is closed (NONE: there is none such)", StageEdgesTest::noSuchStage);
        DUE.sentence("23: The i-th of the ORDER (from 0 on). NONE: there is none such.", StageEdgesTest::noSuchPlace);
        DUE.sentence("24: NONE: no FINISH", StageEdgesTest::resultWithoutFinish);
        DUE.sentence("24: NONE: there are none such", StageEdgesTest::resultOfNobody);
        DUE.sentence("24: NONE: another what", StageEdgesTest::anotherResult);
        DUE.sentence("24: BUNCH (from 0 on), place in the ORDER (from 1 on)", StageEdgesTest::bunchAndPlace);
        DUE.sentence("25: How many BUNCHES there would be by another GAP (1 to 99).", StageEdgesTest::parted);
        DUE.sentence("25: NONE: there is none such.", StageEdgesTest::noSuchGap);
        DUE.sentence("26: The least GAP (1 to 99) by which all were one BUNCH.", StageEdgesTest::together);
        DUE.sentence("26: NONE: there is none such", StageEdgesTest::noGapIsEnough);
        DUE.sentence("26: (TRIALS of two, too)", StageEdgesTest::trialsOfTwo);
        DUE.sentence("27: How many are ahead of the widest space (of like ones the first).", StageEdgesTest::widestSpace);
        DUE.sentence("27: NONE: there are fewer than two.", StageEdgesTest::fewerThanTwo);
        DUE.close();
    }

    private static void order(String what, BunchTimes x, int... want) {
        for (int i = 0; i < want.length; i++) {
            DUE.same(what + ": order " + i, want[i], x.order(0, i));
        }
        DUE.none(what + ": behind the last", x.order(0, want.length));
    }

    // ---- order, bunches, raw

    private static void order() {
        order("one", Races.closed(0, 100, 5000), 0);
        order("like ones", Races.closed(0, 100, 5000, 5000, 5000), 0, 1, 2);
        order("a tenth apart", Races.closed(0, 100, 5002, 5001, 5000), 2, 1, 0);
        order("mixed", Races.closed(0, 100, 5001, 5000, 5001, 5000), 1, 3, 0, 2);
        BunchTimes x = Races.with(16);
        x.stage(0, 100);
        for (int r = 15; r >= 0; r--) {
            x.finish(r, r % 2 == 0 ? 999999 : 1);
        }
        x.close();
        order("sixteen", x, 1, 3, 5, 7, 9, 11, 13, 15, 0, 2, 4, 6, 8, 10, 12, 14);
        x = Races.with(3);
        x.stage(0, 100);
        x.finish(2, 5000);
        x.close();
        order("without those who have none", x, 2);
    }

    private static void gapOrMore() {
        for (int gap : new int[] {1, 2, 10, 98, 99}) {
            for (int kind = 0; kind < 3; kind++) {
                BunchTimes x = Races.with(2);
                x.rule(0, gap);
                x.stage(kind, 100);
                Races.come(x, 100000, 100000 + gap);
                x.close();
                DUE.same("gap " + gap + ", as much behind", 2, x.told(0, 3));
                x = Races.with(2);
                x.rule(0, gap);
                x.stage(kind, 100);
                Races.come(x, 100000, 100000 + gap - 1);
                x.close();
                DUE.same("gap " + gap + ", a tenth less", 1, x.told(0, 3));
            }
        }
        BunchTimes x = Races.closed(0, 100, 100000, 100009, 100018, 100027);
        DUE.same("behind the one ahead, not the first", 1, x.told(0, 3));
        DUE.same("one alone", 1, Races.closed(0, 100, 100000).told(0, 3));
        x = Races.with(16);
        x.stage(0, 100);
        for (int r = 0; r < 16; r++) {
            x.finish(r, 100000 + 10 * r);
        }
        x.close();
        DUE.same("as many as there can be", 16, x.told(0, 3));
    }

    private static void eachInATrial() {
        BunchTimes x = Races.closed(3, 100, 100000, 100000, 100001);
        DUE.same("bunches", 3, x.told(0, 3));
        for (int r = 0; r < 3; r++) {
            DUE.same("bunch", r, x.result(0, r, 3));
        }
        DUE.same("one alone", 1, Races.closed(3, 100, 100000).told(0, 3));
        DUE.same("his own raw", 10001, Races.closed(3, 100, 100001, 100010).result(0, 1, 1));
    }

    private static void wholeSeconds() {
        int[][] whole = {{1, 0}, {9, 0}, {10, 1}, {19, 1}, {20, 2}, {999989, 99998}, {999990, 99999}, {999999, 99999}};
        for (int[] w : whole) {
            DUE.same(w[0] + " tenths", w[1], Races.closed(0, 100, w[0]).result(0, 0, 1));
        }
        BunchTimes x = Races.closed(0, 100, 100009, 100010, 100019);
        DUE.same("the first's", 10000, x.result(0, 1, 1));
        DUE.same("the first's", 10000, x.result(0, 2, 1));
        x = Races.closed(0, 100, 100009, 100019);
        DUE.same("of the next bunch", 10001, x.result(0, 1, 1));
    }

    // ---- times

    /** Rider 0 comes first, the others 10 seconds apart; each falls so many km from the end, with the one told. */
    private static BunchTimes fallen(int kind, int[]... falls) {
        BunchTimes x = Races.with(4);
        x.stage(kind, 100);
        Races.come(x, 100000, 100100, 100200, 100300);
        for (int[] f : falls) {
            x.fall(f[0], f[1], f[2]);
        }
        x.close();
        return x;
    }

    private static void times(String what, BunchTimes x, int... want) {
        for (int r = 0; r < want.length; r++) {
            DUE.same(what + ": time of " + r, want[r], x.result(0, r, 2));
        }
    }

    private static void onFlatAndHills() {
        int[] with = {10000, 10000, 10020, 10030};
        int[] without = {10000, 10010, 10020, 10030};
        times("flat", fallen(0, new int[] {1, 1, 0}), with);
        times("hills", fallen(1, new int[] {1, 1, 0}), with);
        times("peaks", fallen(2, new int[] {1, 1, 0}), without);
        times("trial", fallen(3, new int[] {1, 1, 0}), without);
        times("peaks, km 0", fallen(2, new int[] {1, 0, 0}), without);
    }

    private static void zoneOrLess() {
        times("3 km", fallen(0, new int[] {1, 3, 0}), 10000, 10000);
        times("4 km", fallen(0, new int[] {1, 4, 0}), 10000, 10010);
        times("0 km", fallen(0, new int[] {1, 0, 0}), 10000, 10000);
        for (int zone : new int[] {0, 1, 9}) {
            BunchTimes x = Races.with(3);
            x.rule(1, zone);
            x.stage(1, 100);
            Races.come(x, 100000, 100100, 100200);
            x.fall(1, zone, 0);
            x.fall(2, zone + 1, 0);
            x.close();
            times("zone " + zone, x, 10000, 10000, 10020);
        }
        BunchTimes x = Races.with(2);
        x.rule(1, 9);
        x.stage(0, 1);
        Races.come(x, 1000, 1020);
        x.fall(1, 1, 0);
        x.close();
        times("a zone longer than the stage", x, 100, 100);
    }

    private static void leastRaw() {
        times("with one ahead", fallen(0, new int[] {2, 1, 1}), 10000, 10010, 10010);
        times("with one behind: his own", fallen(0, new int[] {0, 1, 3}), 10000, 10010);
        times("with nobody", fallen(0, new int[] {2, 1, -1}), 10000, 10010, 10020);
        times("without a mishap", fallen(0), 10000, 10010, 10020, 10030);
        BunchTimes x = Races.with(3);
        x.stage(0, 100);
        Races.come(x, 100000, 100009, 100100);
        x.fall(2, 1, 1);
        x.close();
        times("his bunch's, not his finish", x, 10000, 10000, 10000);
    }

    private static void asLongAsItCounts() {
        times("three steps", fallen(0, new int[] {3, 1, 2}, new int[] {2, 2, 1}, new int[] {1, 3, 0}), 10000, 10000, 10000, 10000);
        times("the last does not count", fallen(0, new int[] {3, 1, 2}, new int[] {2, 2, 1}, new int[] {1, 4, 0}), 10000, 10010, 10010, 10010);
        times("the middle does not count", fallen(0, new int[] {3, 1, 2}, new int[] {2, 4, 1}, new int[] {1, 3, 0}), 10000, 10000, 10020, 10020);
        times("the first does not count", fallen(0, new int[] {3, 4, 2}, new int[] {2, 2, 1}, new int[] {1, 3, 0}), 10000, 10000, 10000, 10030);
        times("on by one behind", fallen(0, new int[] {1, 1, 3}, new int[] {3, 1, 0}), 10000, 10000, 10020, 10000);
        BunchTimes x = Races.with(16);
        x.stage(0, 100);
        for (int r = 0; r < 16; r++) {
            x.finish(r, 101500 - 100 * r);
            if (r < 15) {
                x.fall(r, 3, r + 1);
            }
        }
        x.close();
        for (int r = 0; r < 16; r++) {
            DUE.same("as many steps as there can be: " + r, 10000, x.result(0, r, 2));
        }
    }

    private static void ifThatOneHasAFinish() {
        for (boolean quits : new boolean[] {false, true}) {
            BunchTimes x = Races.with(3);
            x.stage(0, 100);
            x.fall(0, 0, 1);
            x.fall(1, 0, 2);
            x.finish(0, 100300);
            x.finish(2, 100000);
            if (quits) {
                x.finish(1, 100100);
                x.quit(1);
            }
            x.close();
            DUE.same("with one who has none: quits " + quits, 10030, x.result(0, 0, 2));
        }
        BunchTimes x = Races.with(4);
        x.stage(0, 100);
        x.fall(0, 0, 1);
        x.fall(1, 0, 2);
        x.fall(2, 0, 3);
        Races.come(x, 100300, 100200);
        x.finish(3, 100000);
        x.close();
        DUE.same("what came ahead of that stays", 10020, x.result(0, 0, 2));
    }

    private static void tillOneComesAgain() {
        times("two", fallen(0, new int[] {0, 1, 1}, new int[] {1, 1, 0}), 10000, 10000, 10020, 10030);
        times("three, one leads into it", fallen(0, new int[] {0, 1, 1}, new int[] {1, 1, 2}, new int[] {2, 1, 0}, new int[] {3, 1, 2}),
            10000, 10000, 10000, 10000);
        BunchTimes x = Races.with(16);
        x.stage(0, 100);
        for (int r = 0; r < 16; r++) {
            x.finish(r, 101500 - 100 * r);
            x.fall(r, 3, (r + 1) % 16);
        }
        x.close();
        for (int r = 0; r < 16; r++) {
            DUE.same("a ring of all: " + r, 10000, x.result(0, r, 2));
        }
    }

    // ---- best, speed, limit

    private static void best() {
        DUE.same("the first's", 10000, Races.closed(0, 100, 100100, 100000).told(0, 4));
        DUE.same("0", 0, Races.closed(0, 100, 9).told(0, 4));
        DUE.same("the most", 99999, Races.closed(0, 100, 999999).told(0, 4));
    }

    private static void speed() {
        int[][] speeds = {{300, 1, 1080000}, {300, 9, 1080000}, {300, 10, 1080000}, {300, 20, 540000}, {1, 1, 3600}, {1, 36000, 1}, {1, 36010, 0},
            {1, 999999, 0}, {100, 100000, 36}, {100, 97310, 36}, {100, 97290, 37}, {300, 999999, 10}};
        for (int[] s : speeds) {
            DUE.same(s[0] + " km in " + s[1], s[2], Races.closed(0, s[0], s[1]).told(0, 5));
        }
    }

    private static void limitByKind() {
        int[] per = {7, 10, 15, 30};
        for (int kind = 0; kind < 4; kind++) {
            DUE.same("kind " + kind, 10000 + 100 * per[kind], Races.closed(kind, 100, 100000).told(0, 6));
            DUE.same("rest dropped, kind " + kind, 99 + 99 * per[kind] / 100, Races.closed(kind, 1, 990).told(0, 6));
        }
        DUE.same("99 and 6.93", 105, Races.closed(0, 1, 990).told(0, 6));
        DUE.same("100 and 7", 107, Races.closed(0, 1, 1000).told(0, 6));
        DUE.same("best 0", 0, Races.closed(3, 1, 1).told(0, 6));
        DUE.same("best 1 and 0.17", 1, Races.closed(0, 1, 10).told(0, 6));
        DUE.same("the most: 99999 and 29999.7", 129998, Races.closed(3, 1, 999999).told(0, 6));
    }

    private static void limitBySpeed() {
        int[][] steps = {{0, 1}, {0, 37}, {0, 38}, {0, 39}, {1, 40}, {1, 41}, {2, 42}, {2, 43}, {9, 56}, {9, 57}};
        int[] per = {7, 10, 15, 30};
        for (int[] s : steps) {
            for (int kind = 0; kind < 4; kind++) {
                // So many km in an hour.
                BunchTimes x = Races.closed(kind, s[1], 36000);
                DUE.same("speed", s[1], x.told(0, 5));
                DUE.same("kind " + kind + " at " + s[1], 3600 + 36 * (per[kind] + s[0]), x.told(0, 6));
            }
        }
    }

    private static void tenMoreAtMost() {
        for (int length : new int[] {58, 59, 60, 61, 100, 300}) {
            DUE.same("at " + length, 3600 + 36 * 17, Races.closed(0, length, 36000).told(0, 6));
            DUE.same("a trial at " + length, 3600 + 36 * 40, Races.closed(3, length, 36000).told(0, 6));
        }
        DUE.same("at 1080000", 1, Races.closed(0, 300, 10).told(0, 6));
    }

    // ---- late, pardoned

    private static void aboveLimit() {
        // The limit is 10700.
        DUE.same("10700", 0, Races.closed(0, 100, 100000, 107000).told(0, 7));
        DUE.same("10700 and 9 tenths", 0, Races.closed(0, 100, 100000, 107009).told(0, 7));
        DUE.same("10701", 1, Races.closed(0, 100, 100000, 107010).told(0, 7));
        DUE.same("none by one alone", 0, Races.closed(0, 100, 999999).told(0, 7));
        DUE.same("best 0: limit 0", 1, Races.closed(0, 100, 1, 11).told(0, 7));
        BunchTimes x = Races.with(2);
        x.stage(0, 100);
        Races.come(x, 100000, 108000);
        x.fall(1, 3, 0);
        x.close();
        DUE.same("by time, not raw", 0, x.told(0, 7));
        // A bunch that begins within the limit.
        DUE.same("by his bunch's first", 0, Races.closed(0, 100, 100000, 107005, 107014).told(0, 7));
        for (int last = 0; last < 16; last += 5) {
            int[] tenths = new int[16];
            Arrays.fill(tenths, 100000);
            tenths[last] = 107010;
            x = Races.closed(0, 100, tenths);
            DUE.same("one of sixteen, whoever he is: " + last, 1, x.told(0, 7));
            DUE.same("he is out: " + last, 0, x.of(last, 2));
        }
    }

    private static void withoutGrace() {
        BunchTimes x = Races.with(6);
        x.stage(0, 100);
        Races.come(x, 100000, 100000, 100000, 108000, 109000, 100000);
        x.grace(3);
        x.grace(0);
        DUE.same("one goes out", 1, x.close());
        DUE.same("late", 1, x.told(0, 7));
        DUE.same("in by grace", 1, x.of(3, 2));
        DUE.same("the fifth of the order has his points", 10, x.result(0, 3, 6));
        DUE.same("out without", 0, x.of(4, 2));
    }

    private static BunchTimes late(int all, int late) {
        BunchTimes x = Races.with(all);
        x.stage(0, 100);
        for (int r = 0; r < all; r++) {
            x.finish(r, r < all - late ? 100000 : 108000);
        }
        return x;
    }

    private static void fiveTimes() {
        int[][] cases = {{2, 1, 1}, {4, 1, 1}, {5, 1, 0}, {6, 1, 0}, {9, 2, 1}, {10, 2, 0}, {11, 2, 0}, {14, 3, 1}, {15, 3, 0}, {16, 3, 0},
            {16, 4, 1}, {16, 15, 1}};
        for (int[] c : cases) {
            BunchTimes x = late(c[0], c[1]);
            DUE.same(c[1] + " of " + c[0] + " go out", c[2] == 1 ? 0 : c[1], x.close());
            DUE.same(c[1] + " of " + c[0] + " are late", c[1], x.told(0, 7));
            DUE.same(c[1] + " of " + c[0] + " are pardoned", c[2], x.told(0, 8));
        }
        BunchTimes x = Races.with(10);
        x.stage(0, 100);
        Races.come(x, 100000, 100000, 100000, 108000);
        x.quit(9);
        DUE.same("of all with a finish, not of all", 5, x.close());
        DUE.same("one of four is pardoned", 1, x.told(0, 8));
        x = late(5, 2);
        x.grace(3);
        DUE.same("one with grace is not one of them", 1, x.close());
        DUE.same("one of five is not pardoned", 0, x.told(0, 8));
    }

    private static void inOrOut() {
        BunchTimes x = late(4, 1);
        x.close();
        DUE.same("pardoned: in", 1, x.of(3, 2));
        DUE.same("his time counts", 10800, x.total(3, false));
        x = late(5, 1);
        x.close();
        DUE.same("not pardoned: out", 0, x.of(4, 2));
        DUE.same("no total", -1000000, x.total(4, false));
        DUE.same("his result is told still", 10800, x.result(0, 4, 2));
    }

    // ---- 22

    private static void pardonedWithout() {
        DUE.same("without late ones", 0, Races.closed(0, 100, 100000).told(0, 8));
        DUE.same("without late ones", 0, Races.closed(0, 100, 100000, 100000, 100000, 100000).told(0, 8));
        DUE.same("pardoned", 1, Races.closed(0, 100, 100000, 108000).told(0, 8));
        DUE.same("not pardoned", 0, Races.closed(0, 100, 100000, 100000, 100000, 100000, 108000).told(0, 8));
    }

    private static void helped(String what, BunchTimes x, int riders, int seconds) {
        DUE.same(what + ": riders", riders, x.told(0, 9));
        DUE.same(what + ": seconds", seconds, x.told(0, 10));
    }

    private static void lessThanRaw() {
        helped("nobody falls", fallen(0), 0, 0);
        helped("one", fallen(0, new int[] {3, 1, 0}), 1, 30);
        helped("like raw does not count", fallen(0, new int[] {0, 1, 3}), 0, 0);
        helped("three", fallen(0, new int[] {3, 1, 2}, new int[] {2, 2, 1}, new int[] {1, 3, 0}), 3, 60);
        helped("outside the zone", fallen(0, new int[] {3, 4, 0}), 0, 0);
        helped("on peaks", fallen(2, new int[] {3, 1, 0}), 0, 0);
        BunchTimes x = Races.with(2);
        x.stage(0, 100);
        Races.come(x, 100000, 100009);
        x.fall(1, 1, 0);
        x.close();
        helped("in one bunch", x, 0, 0);
        x = Races.with(2);
        x.stage(0, 100);
        Races.come(x, 100000, 100010);
        x.fall(1, 1, 0);
        x.close();
        helped("one second", x, 1, 1);
        x = Races.with(16);
        x.stage(0, 100);
        for (int r = 0; r < 16; r++) {
            x.finish(r, 101500 - 100 * r);
            x.fall(r, 0, r == 15 ? 0 : 15);
        }
        x.close();
        helped("as many as there can be: 10 and 20 and so on to 150", x, 15, 1200);
        x = Races.with(3);
        x.stage(0, 100);
        Races.come(x, 100100, 100000);
        x.fall(0, 0, 1);
        x.close();
        helped("the last of the order, who has the first number", x, 1, 10);
    }

    private static void anotherTold() {
        BunchTimes x = Races.between();
        for (int what : new int[] {FAR_BELOW, -1, 11, FAR}) {
            DUE.none("told(0, " + what + ")", x.told(0, what));
        }
        DUE.same("told(0, 0)", 1, x.told(0, 0));
        DUE.same("told(0, 10)", 0, x.told(0, 10));
    }

    /** Each call of a stage, of one of which there is none such. */
    private static void none(String what, BunchTimes x, int stage) {
        for (int w = 0; w <= 10; w++) {
            DUE.none(what + ": told(" + stage + ", " + w + ")", x.told(stage, w));
        }
        DUE.none(what + ": order(" + stage + ")", x.order(stage, 0));
        for (int w = 0; w <= 7; w++) {
            DUE.none(what + ": result(" + stage + ", 0, " + w + ")", x.result(stage, 0, w));
        }
        DUE.none(what + ": parted(" + stage + ")", x.parted(stage, 10));
        DUE.none(what + ": together(" + stage + ")", x.together(stage));
        DUE.none(what + ": escaped(" + stage + ")", x.escaped(stage));
    }

    private static void noSuchStage() {
        none("none at all", new BunchTimes(), 0);
        BunchTimes x = Races.finishing();
        x.finish(1, 95000);
        for (int stage : new int[] {FAR_BELOW, -1, 2, 8, FAR}) {
            none("one is closed, one open", x, stage);
        }
        none("the open one", x, 1);
        x.close();
        DUE.same("both are closed", 0, x.told(1, 0));
        DUE.same("the first still is", 1, x.told(0, 0));
        x = Races.with(1);
        for (int s = 0; s < 8; s++) {
            x.stage(s % 4, 100 + s);
            x.finish(0, 100000 + s);
            x.close();
        }
        for (int s = 0; s < 8; s++) {
            DUE.same("of eight: " + s, 100 + s, x.told(s, 1));
            DUE.same("of eight: " + s, 100000 + s, x.result(s, 0, 0));
        }
        none("of eight", x, 8);
    }

    // ---- 23, 24

    private static void noSuchPlace() {
        BunchTimes x = Races.between();
        for (int i : new int[] {FAR_BELOW, -1, 3, 16, FAR}) {
            DUE.none("order(0, " + i + ")", x.order(0, i));
        }
        DUE.same("the first", 0, x.order(0, 0));
        DUE.same("the last", 2, x.order(0, 2));
        x = Races.with(16);
        x.stage(0, 100);
        for (int r = 0; r < 16; r++) {
            x.finish(r, 100000);
        }
        x.close();
        DUE.same("the last of sixteen", 15, x.order(0, 15));
        DUE.none("behind the last of sixteen", x.order(0, 16));
    }

    private static void resultWithoutFinish() {
        BunchTimes x = Races.between();
        Races.more(x, "rider 0 20;");
        for (int what = 0; what <= 7; what++) {
            DUE.none("who did not come in, what " + what, x.result(0, 3, what));
            DUE.none("who was told behind it, what " + what, x.result(0, 4, what));
        }
        x = Races.finishing();
        x.finish(1, 90000);
        x.quit(0);
        x.close();
        for (int what = 0; what <= 7; what++) {
            DUE.none("who quit, what " + what, x.result(1, 0, what));
        }
    }

    private static void resultOfNobody() {
        for (int what = 0; what <= 7; what++) {
            for (int rider : new int[] {FAR_BELOW, -1, 4, 16, FAR}) {
                DUE.none("rider " + rider + ", what " + what, Races.between().result(0, rider, what));
            }
        }
        DUE.same("the last who came in", 40200, Races.between().result(0, 2, 0));
    }

    private static void anotherResult() {
        BunchTimes x = Races.between();
        for (int what : new int[] {FAR_BELOW, -1, 8, FAR}) {
            DUE.none("what " + what, x.result(0, 0, what));
        }
    }

    private static void bunchAndPlace() {
        BunchTimes x = Races.with(16);
        x.stage(0, 100);
        for (int r = 0; r < 16; r++) {
            x.finish(r, 100000 + 10 * (15 - r));
        }
        x.close();
        for (int r = 0; r < 16; r++) {
            DUE.same("bunch of " + r, 15 - r, x.result(0, r, 3));
            DUE.same("place of " + r, 16 - r, x.result(0, r, 4));
        }
        x = Races.closed(0, 100, 100000, 100000);
        DUE.same("bunch of one alike", 0, x.result(0, 1, 3));
        DUE.same("place of one alike", 2, x.result(0, 1, 4));
    }

    // ---- 25 to 27

    private static void parted() {
        BunchTimes x = Races.closed(0, 100, 100000, 100000, 100001, 100099, 100198);
        int[][] parted = {{1, 4}, {2, 3}, {10, 3}, {97, 3}, {98, 3}, {99, 2}};
        for (int[] p : parted) {
            DUE.same("by " + p[0], p[1], x.parted(0, p[0]));
        }
        DUE.same("those there are stay", 3, x.told(0, 3));
        DUE.same("the rule stays", 10, x.count(7));
        DUE.same("a trial", 2, Races.closed(3, 100, 100000, 100000).parted(0, 99));
        DUE.same("one alone", 1, Races.closed(0, 100, 100000).parted(0, 1));
    }

    private static void noSuchGap() {
        for (int gap : new int[] {FAR_BELOW, -1, 0, 100, FAR}) {
            DUE.none("by " + gap, Races.between().parted(0, gap));
        }
    }

    private static void together() {
        int[][] spaces = {{0, 1}, {1, 2}, {9, 10}, {97, 98}, {98, 99}};
        for (int[] s : spaces) {
            for (int kind = 0; kind < 3; kind++) {
                DUE.same(s[0] + " apart", s[1], Races.closed(kind, 100, 100000, 100000 + s[0]).together(0));
            }
        }
        DUE.same("one alone", 1, Races.closed(0, 100, 100000).together(0));
        DUE.same("the widest of three", 51, Races.closed(0, 100, 100000, 100050, 100060).together(0));
        int[] tenths = new int[16];
        for (int r = 0; r < 16; r++) {
            tenths[r] = 100000 + 10 * r + (r == 15 ? 5 : 0);
        }
        DUE.same("as many as there can be", 16, Races.closed(0, 100, tenths).together(0));
    }

    private static void noGapIsEnough() {
        DUE.none("99 apart", Races.closed(0, 100, 100000, 100099).together(0));
        DUE.none("far apart", Races.closed(0, 100, 1, 999999).together(0));
        DUE.none("two of three", Races.closed(0, 100, 100000, 100099, 100100).together(0));
    }

    private static void trialsOfTwo() {
        DUE.none("two", Races.closed(3, 100, 100000, 100001).together(0));
        DUE.none("two alike", Races.closed(3, 100, 100000, 100000).together(0));
        DUE.none("three", Races.closed(3, 100, 100000, 100000, 100000).together(0));
        DUE.same("one", 1, Races.closed(3, 100, 100000).together(0));
    }

    private static void widestSpace() {
        DUE.same("of two", 1, Races.closed(0, 100, 100000, 100500).escaped(0));
        DUE.same("of two alike", 1, Races.closed(0, 100, 100000, 100000).escaped(0));
        DUE.same("the second by a tenth", 2, Races.closed(0, 100, 100000, 100500, 101001).escaped(0));
        DUE.same("the first by a tenth", 1, Races.closed(0, 100, 100000, 100501, 101001).escaped(0));
        DUE.same("of like ones the first", 1, Races.closed(0, 100, 100000, 100500, 101000, 101500).escaped(0));
        DUE.same("of like ones the first, not of all", 2, Races.closed(0, 100, 100000, 100001, 100500, 100999).escaped(0));
        DUE.same("in a trial, too", 2, Races.closed(3, 100, 100000, 100001, 100003).escaped(0));
        BunchTimes x = Races.with(16);
        x.stage(0, 100);
        for (int r = 0; r < 16; r++) {
            x.finish(r, r == 15 ? 100001 : 100000);
        }
        x.close();
        DUE.same("as many as there can be", 15, x.escaped(0));
    }

    private static void fewerThanTwo() {
        DUE.none("one", Races.closed(0, 100, 100000).escaped(0));
        DUE.none("one in a trial", Races.closed(3, 100, 100000).escaped(0));
        BunchTimes x = Races.with(3);
        x.stage(0, 100);
        Races.come(x, 100000, 100001);
        x.quit(1);
        x.close();
        DUE.none("one of three", x.escaped(0));
    }
}
