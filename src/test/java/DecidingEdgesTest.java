/** Promises 13 to 17 at their edges, sentence by sentence: the jury, grace, who quits, rules, closing. */
final class DecidingEdgesTest {
    private static final Due DUE = new Due();
    private static final int FAR = Integer.MAX_VALUE;
    private static final int FAR_BELOW = Integer.MIN_VALUE;

    public static void main(String[] args) {
        DUE.sentence("13: The JURY's seconds: what they are then in this STAGE.", DecidingEdgesTest::jurySums);
        DUE.sentence("13: NONE: none is OPEN", DecidingEdgesTest::noStageForTheJury);
        DUE.sentence("13: NONE: it can't be (1 to 3600 a time)", DecidingEdgesTest::noSuchSeconds);
        DUE.sentence("13: NONE: it can't be (99999 together at most)", DecidingEdgesTest::secondsTogether);
        DUE.sentence("13: NONE: it can't be (of RIDERS that are IN)", DecidingEdgesTest::nobodyForTheJury);
        DUE.sentence("14: GRACE: true.", DecidingEdgesTest::graceIsTold);
        DUE.sentence("14: false: none is OPEN", DecidingEdgesTest::noStageForGrace);
        DUE.sentence("14: false: it can't be", DecidingEdgesTest::nobodyForGrace);
        DUE.sentence("14: false: he has it", DecidingEdgesTest::oneGraceEach);
        DUE.sentence("15: QUITS: true. (he is OUT at once)", DecidingEdgesTest::outAtOnce);
        DUE.sentence("15: what was told of him in this STAGE is none: FINISH", DecidingEdgesTest::noFinishOfOneThatQuit);
        DUE.sentence("15: what was told of him in this STAGE is none: over MARKS", DecidingEdgesTest::noCrossingOfOneThatQuit);
        DUE.sentence("15: what was told of him in this STAGE is none: the JURY's seconds", DecidingEdgesTest::noJuryOfOneThatQuit);
        DUE.sentence("15: what was told of him in this STAGE is none: in this one alone", DecidingEdgesTest::quitInThisStageAlone);
        DUE.sentence("15: false: none is OPEN", DecidingEdgesTest::noStageForQuitting);
        DUE.sentence("15: false: it can't be", DecidingEdgesTest::nobodyQuits);
        DUE.sentence("16: A RULE is v: true. (GAP 1 to 99)", DecidingEdgesTest::gaps);
        DUE.sentence("16: A RULE is v: true. (ZONE 0 to 9)", DecidingEdgesTest::zones);
        DUE.sentence("16: RULES: as told when a STAGE is CLOSED", DecidingEdgesTest::rulesWhenClosed);
        DUE.sentence("16: false: it is so", DecidingEdgesTest::ruleIsSo);
        DUE.sentence("16: false: it can't be", DecidingEdgesTest::ruleCannotBe);
        DUE.sentence("16: false: another what", DecidingEdgesTest::anotherRule);
        DUE.sentence("17: The OPEN STAGE is CLOSED: how many go OUT by it.", DecidingEdgesTest::howManyGoOut);
        DUE.sentence("17: NONE: it can't be (one FINISH at least)", DecidingEdgesTest::noFinishToClose);
        DUE.sentence("17: NONE: it can't be (none is OPEN)", DecidingEdgesTest::noStageToClose);
        DUE.close();
    }

    // ---- 13

    private static void jurySums() {
        BunchTimes x = Races.open();
        DUE.same("7 and 1", 8, x.jury(0, 1));
        DUE.same("and 3600", 3608, x.jury(0, 3600));
        DUE.same("another's", 3600, x.jury(1, 3600));
        DUE.same("the first's still", 3609, x.jury(0, 1));
        x.finish(0, 90000);
        x.finish(1, 90000);
        DUE.same("none of an open one", 0, x.of(0, 6));
        DUE.same("those of the first stage", 4, x.of(1, 6));
        x.close();
        DUE.same("in all", 3609, x.of(0, 6));
        DUE.same("of both stages", 3604, x.of(1, 6));
        x.stage(0, 100);
        DUE.same("from the begin in the next", 5, x.jury(0, 5));
    }

    private static void noStageForTheJury() {
        DUE.refusedNone("ahead of any", () -> Races.with(1), x -> x.jury(0, 5));
        DUE.refusedNone("it is closed", Races::between, x -> x.jury(0, 5));
    }

    private static void noSuchSeconds() {
        for (int seconds : new int[] {FAR_BELOW, -1, 0, 3601, FAR}) {
            DUE.refusedNone("seconds " + seconds, Races::open, x -> x.jury(0, seconds));
        }
        DUE.same("1", 1, Races.open().jury(1, 1));
        DUE.same("3600", 3600, Races.open().jury(1, 3600));
    }

    private static BunchTimes juried(int last) {
        BunchTimes x = Races.open();
        for (int n = 0; n < 27; n++) {
            x.jury(1, 3600);
        }
        if (last > 0) {
            x.jury(1, last);
        }
        return x;
    }

    private static void secondsTogether() {
        DUE.same("99999", 99999, juried(0).jury(1, 2799));
        DUE.refusedNone("100000", () -> juried(0), x -> x.jury(1, 2800));
        DUE.refusedNone("99999 and 1", () -> juried(2799), x -> x.jury(1, 1));
        DUE.refusedNone("99999 and 3600", () -> juried(2799), x -> x.jury(1, 3600));
        DUE.same("99998 and 1", 99999, juried(2798).jury(1, 1));
        BunchTimes x = juried(2799);
        DUE.same("another's", 3600, x.jury(2, 3600));
        Races.come(x, 90000, 90000, 90000);
        x.close();
        DUE.same("they count", 99999 + 4, x.of(1, 6));
        x.stage(0, 100);
        DUE.same("in the next stage", 3600, x.jury(1, 3600));
    }

    private static void nobodyForTheJury() {
        for (int rider : new int[] {FAR_BELOW, -1, 4, 16, FAR}) {
            DUE.refusedNone("rider " + rider, Races::open, x -> x.jury(rider, 5));
        }
        DUE.refusedNone("who is out", Races::open, x -> x.jury(3, 5));
        DUE.same("the last that is in", 5, Races.open().jury(2, 5));
    }

    // ---- 14

    private static void graceIsTold() {
        BunchTimes x = Races.with(16);
        x.stage(0, 100);
        for (int r = 0; r < 16; r++) {
            DUE.yes("rider " + r, x.grace(r));
            x.finish(r, r == 0 ? 100000 : 900000);
        }
        DUE.same("nobody is late", 0, x.close());
        x.stage(0, 100);
        DUE.yes("in the next stage", x.grace(0));
        x.finish(15, 900000);
        x.finish(0, 100000);
        x.close();
        DUE.same("that of another stage does not count", 1, x.told(1, 7));
    }

    private static void noStageForGrace() {
        DUE.refused("ahead of any", () -> Races.with(1), x -> x.grace(0));
        DUE.refused("it is closed", Races::between, x -> x.grace(0));
    }

    private static void nobodyForGrace() {
        for (int rider : new int[] {FAR_BELOW, -1, 4, 16, FAR}) {
            DUE.refused("rider " + rider, Races::open, x -> x.grace(rider));
        }
        DUE.refused("who is out", Races::open, x -> x.grace(3));
        DUE.yes("the last that is in", Races.open().grace(2));
    }

    private static void oneGraceEach() {
        DUE.refused("again", Races::open, x -> x.grace(0));
        DUE.yes("another's", Races.open().grace(1));
    }

    // ---- 15

    private static void outAtOnce() {
        BunchTimes x = Races.open();
        DUE.yes("one", x.quit(0));
        DUE.same("out", 0, x.of(0, 2));
        DUE.same("those in", 2, x.count(2));
        DUE.same("the first in general by now", 1, x.list(0, 0));
        DUE.same("no total", -1000000, x.total(0, false));
        DUE.yes("the next", x.quit(2));
        DUE.yes("the last of all", x.quit(1));
        DUE.same("nobody is in", 0, x.count(2));
        DUE.none("no first in general", x.list(0, 0));
    }

    private static void noFinishOfOneThatQuit() {
        BunchTimes x = Races.finishing();
        x.finish(1, 90500);
        x.quit(0);
        DUE.same("finishes", 1, x.count(6));
        DUE.same("rider 2 alone goes out by the close", 1, x.close());
        DUE.same("finishes", 1, x.told(1, 2));
        DUE.same("the first of the order", 1, x.order(1, 0));
        DUE.none("his result", x.result(1, 0, 0));
        x = Races.finishing();
        x.quit(0);
        DUE.none("no finish is left", x.close());
    }

    private static void noCrossingOfOneThatQuit() {
        BunchTimes x = Races.open();
        DUE.same("rider 2 is the second", 2, x.over(0, 2));
        x.quit(0);
        DUE.same("one is ahead of the next", 2, x.over(0, 1));
        x.finish(1, 90000);
        x.finish(2, 90500);
        x.close();
        DUE.same("rider 2 is the first: 6 and 3", 9, x.result(1, 2, 5));
        DUE.same("rider 1 the second: 10 and 2", 12, x.result(1, 1, 5));
        quitsOverAll(0, 10, 7, 4, 2);
        quitsOverAll(15, 10, 7, 4, 2);
        quitsOverAll(7, 10, 7, 4, 2);
    }

    /** Sixteen come over six sprints, one mark the other way round; one quits, and the places close up behind him. */
    private static void quitsOverAll(int who, int... points) {
        BunchTimes x = Races.with(16);
        x.stage(3, 100);
        for (int m = 0; m < 6; m++) {
            x.mark(m + 1, 0);
            Races.more(x, m % 2 == 0 ? "over " + m + " 0 1 2 3 4 5 6 7 8 9 10 11 12 13 14 15;" : "over " + m + " 15 14 13 12 11 10 9 8 7 6 5 4 3 2 1 0;");
        }
        x.quit(who);
        DUE.none("he is over none any more, nor can he be: " + who, x.over(0, who));
        DUE.none("the others are over all: " + who, x.over(5, who == 0 ? 1 : 0));
        for (int r = 0; r < 16; r++) {
            x.finish(r, 100000 + (r + 8) % 16);
        }
        x.close();
        int at = 0;
        for (int r = 0; r < 16 && at < 3; r++) {
            if (r != who) {
                DUE.same("without " + who + ", points of " + r, 3 * points[at], x.result(0, r, 6) - ofTheOrder(x, r));
                at++;
            }
        }
        at = 0;
        for (int r = 15; r >= 0 && at < 3; r--) {
            if (r != who) {
                DUE.same("without " + who + ", points of " + r, 3 * points[at], x.result(0, r, 6) - ofTheOrder(x, r));
                at++;
            }
        }
    }

    private static int ofTheOrder(BunchTimes x, int rider) {
        int place = x.result(0, rider, 4);
        return place <= 5 ? 12 - 2 * place : 0;
    }

    private static void noJuryOfOneThatQuit() {
        BunchTimes x = Races.open();
        x.jury(1, 50);
        x.quit(1);
        x.quit(0);
        x.finish(2, 90000);
        x.close();
        DUE.same("none of this stage", 0, x.of(0, 6));
        DUE.same("those of the other", 4, x.of(1, 6));
    }

    private static void quitInThisStageAlone() {
        BunchTimes x = Races.finishing();
        String before = x.result(0, 0, 0) + " " + x.of(0, 3) + " " + x.of(0, 5) + " " + x.order(0, 0);
        x.quit(0);
        DUE.sameText("the first stage", before, x.result(0, 0, 0) + " " + x.of(0, 3) + " " + x.of(0, 5) + " " + x.order(0, 0));
        DUE.sameText("the first stage", "40000 15 10 0", before);
    }

    private static void noStageForQuitting() {
        DUE.refused("ahead of any", () -> Races.with(1), x -> x.quit(0));
        DUE.refused("it is closed", Races::between, x -> x.quit(0));
    }

    private static void nobodyQuits() {
        for (int rider : new int[] {FAR_BELOW, -1, 4, 16, FAR}) {
            DUE.refused("rider " + rider, Races::finishing, x -> x.quit(rider));
        }
        DUE.refused("who is out by another stage", Races::finishing, x -> x.quit(3));
        BunchTimes x = Races.finishing();
        x.quit(1);
        DUE.no("who has quit", x.quit(1));
        DUE.same("those in", 2, x.count(2));
    }

    // ---- 16

    private static void gaps() {
        for (int gap = 1; gap <= 99; gap += 49) {
            BunchTimes x = Races.with(3);
            DUE.yes("gap " + gap, x.rule(0, gap));
            DUE.same("it is told", gap, x.count(7));
            DUE.same("the zone stays", 3, x.count(8));
            x.stage(0, 100);
            Races.come(x, 100000, 100000 + gap - 1, 100000 + gap - 1 + gap);
            x.close();
            DUE.same("it counts", 2, x.told(0, 3));
        }
    }

    private static void zones() {
        for (int zone = 0; zone <= 9; zone += 9) {
            BunchTimes x = Races.with(3);
            DUE.yes("zone " + zone, x.rule(1, zone));
            DUE.same("it is told", zone, x.count(8));
            DUE.same("the gap stays", 10, x.count(7));
            x.stage(0, 100);
            Races.come(x, 100000, 101000, 102000);
            x.fall(1, zone, 0);
            x.fall(2, zone + 1, 0);
            x.close();
            DUE.same("it counts", 10000, x.result(0, 1, 2));
            DUE.same("no farther", 10200, x.result(0, 2, 2));
        }
    }

    private static void rulesWhenClosed() {
        BunchTimes x = Races.with(2);
        x.stage(0, 100);
        Races.come(x, 100000, 100050);
        x.fall(1, 5, 0);
        x.rule(0, 50);
        x.rule(1, 5);
        x.close();
        DUE.same("those of then", 2, x.told(0, 3));
        DUE.same("those of then", 10000, x.result(0, 1, 2));
        x.rule(0, 51);
        x.rule(1, 4);
        DUE.same("not later ones", 2, x.told(0, 3));
        DUE.same("not later ones", 10000, x.result(0, 1, 2));
    }

    private static void ruleIsSo() {
        DUE.refused("gap 10", Races::open, x -> x.rule(0, 10));
        DUE.refused("zone 3", Races::open, x -> x.rule(1, 3));
        BunchTimes x = new BunchTimes();
        DUE.yes("gap 3", x.rule(0, 3));
        DUE.no("gap 3 again", x.rule(0, 3));
        DUE.yes("gap 10 again", x.rule(0, 10));
        DUE.yes("zone 9", x.rule(1, 9));
        DUE.no("zone 9 again", x.rule(1, 9));
    }

    private static void ruleCannotBe() {
        for (int gap : new int[] {FAR_BELOW, -1, 0, 100, FAR}) {
            DUE.refused("gap " + gap, Races::open, x -> x.rule(0, gap));
        }
        for (int zone : new int[] {FAR_BELOW, -1, 10, FAR}) {
            DUE.refused("zone " + zone, Races::open, x -> x.rule(1, zone));
        }
    }

    private static void anotherRule() {
        for (int what : new int[] {FAR_BELOW, -1, 2, FAR}) {
            for (int v : new int[] {0, 5, 20}) {
                DUE.refused("what " + what + " as " + v, Races::open, x -> x.rule(what, v));
            }
        }
    }

    // ---- 17

    private static void howManyGoOut() {
        BunchTimes x = Races.with(16);
        x.stage(0, 100);
        x.finish(7, 100000);
        DUE.same("all but one", 15, x.close());
        DUE.same("in", 1, x.count(2));
        DUE.same("the one", 1, x.of(7, 2));
        DUE.same("closed", 1, x.count(4));
        x.stage(0, 100);
        x.finish(7, 100000);
        DUE.same("none: the others were out", 0, x.close());
        x = Races.with(7);
        x.stage(0, 100);
        Races.come(x, 100000, 100000, 100000, 100000, 108000);
        x.quit(6);
        DUE.same("one late, one without a finish, not the one that quit", 2, x.close());
        DUE.same("who is late", 0, x.of(4, 2));
        DUE.same("who has none", 0, x.of(5, 2));
        DUE.same("in", 4, x.count(2));
    }

    private static void noFinishToClose() {
        DUE.refusedNone("no finish", Races::open, BunchTimes::close);
        BunchTimes x = Races.open();
        x.close();
        DUE.yes("it is open still", x.finish(0, 90000));
        DUE.same("one finish", 2, x.close());
    }

    private static void noStageToClose() {
        DUE.refusedNone("ahead of any", () -> Races.with(1), BunchTimes::close);
        DUE.refusedNone("nobody", BunchTimes::new, BunchTimes::close);
        DUE.refusedNone("it is closed", Races::between, BunchTimes::close);
    }
}
