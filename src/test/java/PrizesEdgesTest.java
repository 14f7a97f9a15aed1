/** Term 2's BONUS, POINTS and DOTS at their edges, sentence by sentence, as promises 21 and 24 tell them. */
final class PrizesEdgesTest {
    private static final Due DUE = new Due();
    private static final int BONUS = 5;
    private static final int POINTS = 6;
    private static final int DOTS = 7;

    public static void main(String[] args) {
        DUE.sentence("BONUS: 10, 6, 4 for the first three of the ORDER", PrizesEdgesTest::bonusOfTheOrder);
        DUE.sentence("BONUS: (not in a TRIAL)", PrizesEdgesTest::noBonusInATrial);
        DUE.sentence("BONUS: 3, 2, 1 for the first three over each SPRINT", PrizesEdgesTest::bonusOfSprints);
        DUE.sentence("BONUS: (of those who have a FINISH, OUT or not)", PrizesEdgesTest::bonusOutOrNot);
        DUE.sentence("POINTS: for the first five of the ORDER, by KIND", PrizesEdgesTest::pointsOfTheOrder);
        DUE.sentence("POINTS: for the first four over a SPRINT 10 7 4 2", PrizesEdgesTest::pointsOfSprints);
        DUE.sentence("DOTS: for the first ones over a CLIMB, by CLASS", PrizesEdgesTest::dotsOfClimbs);
        DUE.sentence("Over a MARK those count who have a FINISH, none of the others has a place there", PrizesEdgesTest::othersHaveNoPlace);
        DUE.sentence("Who is LATE keeps his places, but has no POINTS, no DOTS of this STAGE; BONUS he has", PrizesEdgesTest::lateKeepPlaces);
        DUE.sentence("PARDONED or not", PrizesEdgesTest::pardonedOrNot);
        DUE.close();
    }

    private static BunchTimes ordered(int kind, int riders) {
        BunchTimes x = Races.with(riders);
        x.stage(kind, 100);
        for (int r = 0; r < riders; r++) {
            x.finish(r, 100000 + r);
        }
        return x;
    }

    private static void results(String what, BunchTimes x, int which, int... want) {
        for (int r = 0; r < want.length; r++) {
            DUE.same(what + ": " + r, want[r], x.result(0, r, which));
        }
    }

    private static void bonusOfTheOrder() {
        for (int kind = 0; kind < 3; kind++) {
            BunchTimes x = ordered(kind, 5);
            x.close();
            results("five", x, BONUS, 10, 6, 4, 0, 0);
            x = ordered(kind, 2);
            x.close();
            results("two", x, BONUS, 10, 6);
            x = ordered(kind, 1);
            x.close();
            results("one", x, BONUS, 10);
        }
        // By the ORDER, not by TIME: one bunch, the number decides.
        results("alike", Races.closed(0, 100, 100000, 100000, 100000, 100000), BONUS, 10, 6, 4, 0);
    }

    private static void noBonusInATrial() {
        BunchTimes x = ordered(3, 4);
        x.close();
        results("of the order", x, BONUS, 0, 0, 0, 0);
        x = ordered(3, 4);
        x.mark(10, 0);
        x.over(0, 3);
        x.close();
        results("over a sprint there is", x, BONUS, 0, 0, 0, 3);
    }

    /** Sixteen in a trial; riders 10 and on come over each mark, 15 first. */
    private static BunchTimes crossed(int... marks) {
        BunchTimes x = ordered(3, 16);
        for (int m = 0; m < marks.length; m++) {
            x.mark(m + 1, marks[m]);
            for (int r = 15; r >= 10; r--) {
                x.over(m, r);
            }
        }
        x.close();
        return x;
    }

    private static void over(String what, BunchTimes x, int which, int... want) {
        for (int i = 0; i < want.length; i++) {
            DUE.same(what + ": the one at " + (i + 1), want[i], x.result(0, 15 - i, which));
        }
    }

    private static void bonusOfSprints() {
        over("one sprint", crossed(0), BONUS, 3, 2, 1, 0, 0, 0);
        over("six sprints", crossed(0, 0, 0, 0, 0, 0), BONUS, 18, 12, 6, 0, 0, 0);
        over("climbs", crossed(1, 2, 3, 4), BONUS, 0, 0, 0, 0, 0, 0);
        BunchTimes x = ordered(0, 2);
        x.mark(10, 0);
        x.close();
        results("nobody over it", x, BONUS, 10, 6);
    }

    private static void bonusOutOrNot() {
        BunchTimes x = Races.with(5);
        x.stage(0, 100);
        x.mark(10, 0);
        x.over(0, 4);
        Races.come(x, 100000, 100000, 100000, 100000, 108000);
        x.close();
        DUE.same("out", 0, x.of(4, 2));
        DUE.same("his bonus", 3, x.result(0, 4, BONUS));
        DUE.same("in all", 3, x.of(4, 5));
    }

    private static void pointsOfTheOrder() {
        int[][] points = {{25, 20, 16, 13, 10, 0, 0}, {15, 12, 9, 7, 5, 0, 0}, {10, 8, 6, 4, 2, 0, 0}, {10, 8, 6, 4, 2, 0, 0}};
        for (int kind = 0; kind < 4; kind++) {
            BunchTimes x = ordered(kind, 7);
            x.close();
            results("kind " + kind, x, POINTS, points[kind]);
            x = ordered(kind, 1);
            x.close();
            results("one alone, kind " + kind, x, POINTS, points[kind][0]);
        }
    }

    private static void pointsOfSprints() {
        over("one sprint", crossed(0), POINTS, 10, 7, 4, 2, 0, 0);
        over("two sprints", crossed(0, 0), POINTS, 20, 14, 8, 4, 0, 0);
        over("climbs", crossed(1, 2, 3, 4), POINTS, 0, 0, 0, 0, 0, 0);
        BunchTimes x = ordered(0, 1);
        x.mark(10, 0);
        x.over(0, 0);
        x.close();
        results("one alone: 25 and 10", x, POINTS, 35);
    }

    private static void dotsOfClimbs() {
        over("class 1", crossed(1), DOTS, 10, 8, 6, 4, 0, 0);
        over("class 2", crossed(2), DOTS, 5, 3, 2, 1, 0, 0);
        over("class 3", crossed(3), DOTS, 2, 1, 0, 0, 0, 0);
        over("class 4", crossed(4), DOTS, 1, 0, 0, 0, 0, 0);
        over("sprints", crossed(0), DOTS, 0, 0, 0, 0, 0, 0);
        over("each class and a sprint", crossed(0, 1, 2, 3, 4), DOTS, 18, 12, 8, 5, 0, 0);
    }

    private static void othersHaveNoPlace() {
        for (int how = 0; how <= 1; how++) {
            BunchTimes x = Races.with(8);
            x.stage(3, 100);
            x.mark(10, how);
            // Riders 6 and 7 are ahead of, and between, those who come in; one has none, one quits.
            for (int r : new int[] {6, 5, 7, 4}) {
                x.over(0, r);
            }
            for (int r = 0; r < 6; r++) {
                x.finish(r, 100000 + (r == 4 ? 20 : r));
            }
            x.quit(7);
            x.close();
            DUE.same("the first place, how " + how, 10, x.result(0, 5, how == 0 ? POINTS : DOTS) - (how == 0 ? 2 : 0));
            DUE.same("the second place, how " + how, how == 0 ? 7 : 8, x.result(0, 4, how == 0 ? POINTS : DOTS));
            DUE.same("bonus of the first, how " + how, how == 0 ? 3 : 0, x.result(0, 5, BONUS));
            DUE.same("bonus of the second, how " + how, how == 0 ? 2 : 0, x.result(0, 4, BONUS));
            DUE.same("none of who has no finish", 0, x.of(6, 3) + x.of(6, 4) + x.of(6, 5));
            DUE.same("none of who quit", 0, x.of(7, 3) + x.of(7, 4) + x.of(7, 5));
        }
    }

    /** A flat stage: the last so many are late, and first over a sprint and a climb; then the others, by number. */
    private static BunchTimes late(int all, int late) {
        BunchTimes x = Races.with(all);
        x.stage(0, 100);
        x.mark(10, 0);
        x.mark(20, 1);
        for (int r = 0; r < all; r++) {
            x.finish(r, r < all - late ? 100000 : 108000);
        }
        for (int m = 0; m < 2; m++) {
            for (int r = all - late; r < all; r++) {
                x.over(m, r);
            }
            for (int r = 0; r < all - late; r++) {
                x.over(m, r);
            }
        }
        x.close();
        return x;
    }

    private static void lateKeepPlaces() {
        BunchTimes x = late(5, 1);
        DUE.same("not pardoned", 0, x.told(0, 8));
        // The late one is the fifth of the order, and the first over both.
        DUE.same("no points", 0, x.result(0, 4, POINTS));
        DUE.same("no dots", 0, x.result(0, 4, DOTS));
        DUE.same("bonus he has", 3, x.result(0, 4, BONUS));
        DUE.same("his place", 5, x.result(0, 4, 4));
        DUE.same("the second over the sprint stays the second: 25 and 7", 32, x.result(0, 0, POINTS));
        DUE.same("the second over the climb stays the second", 8, x.result(0, 0, DOTS));
        DUE.same("bonus: 10 and 2", 12, x.result(0, 0, BONUS));
        DUE.same("the fourth of the others is the fifth: 13", 13, x.result(0, 3, POINTS));
    }

    private static void pardonedOrNot() {
        BunchTimes x = late(4, 2);
        DUE.same("pardoned", 1, x.told(0, 8));
        for (int r = 2; r < 4; r++) {
            DUE.same("no points", 0, x.result(0, r, POINTS));
            DUE.same("no points in all", 0, x.of(r, 3));
            DUE.same("no dots", 0, x.result(0, r, DOTS));
            DUE.same("no dots in all", 0, x.of(r, 4));
        }
        DUE.same("bonus of the third: 4 and 3", 7, x.result(0, 2, BONUS));
        DUE.same("bonus of the fourth: 2", 2, x.result(0, 3, BONUS));
        DUE.same("places are kept: 25 and 4", 29, x.result(0, 0, POINTS));
        DUE.same("places are kept", 6, x.result(0, 0, DOTS));
        // In another stage they have them again.
        x.stage(0, 100);
        for (int r = 0; r < 4; r++) {
            x.finish(r, 100000);
        }
        x.close();
        DUE.same("of another stage", 16, x.of(2, 3));
        // By grace one is not late.
        x = Races.with(2);
        x.stage(0, 100);
        x.mark(10, 1);
        x.over(0, 1);
        Races.come(x, 100000, 108000);
        x.grace(1);
        x.close();
        DUE.same("points by grace", 20, x.result(0, 1, POINTS));
        DUE.same("dots by grace", 10, x.result(0, 1, DOTS));
    }
}
