/** Promises 1 and 6 to 12 at their edges, sentence by sentence: a new object, and what is told by calls. */
final class TellingEdgesTest {
    private static final Due DUE = new Due();
    private static final int FAR = Integer.MAX_VALUE;
    private static final int FAR_BELOW = Integer.MIN_VALUE;

    public static void main(String[] args) {
        DUE.sentence("1: Nobody, no STAGES.", TellingEdgesTest::nobody);
        DUE.sentence("1: GAP (10 at first), ZONE (3 at first)", TellingEdgesTest::rulesAtFirst);
        DUE.sentence("6: A TEAM more: its number.", TellingEdgesTest::teamsAreNumbered);
        DUE.sentence("6: NONE: there are 6.", TellingEdgesTest::sixTeams);
        DUE.sentence("7: A RIDER more: his number.", TellingEdgesTest::ridersAreNumbered);
        DUE.sentence("7: RIDERS are IN at first.", TellingEdgesTest::ridersAreIn);
        DUE.sentence("7: NONE: there are 16", TellingEdgesTest::sixteenRiders);
        DUE.sentence("7: NONE: no such TEAM", TellingEdgesTest::noSuchTeam);
        DUE.sentence("7: NONE: no such AGE", TellingEdgesTest::noSuchAge);
        DUE.sentence("7: NONE: a FINISH is told in an OPEN STAGE", TellingEdgesTest::ridersAheadOfFinishes);
        DUE.sentence("8: A STAGE more, OPEN: its number.", TellingEdgesTest::stagesAreNumbered);
        DUE.sentence("8: NONE: there are 8", TellingEdgesTest::eightStages);
        DUE.sentence("8: NONE: one is OPEN", TellingEdgesTest::oneIsOpen);
        DUE.sentence("8: NONE: no such KIND", TellingEdgesTest::noSuchKind);
        DUE.sentence("8: NONE: no such LENGTH", TellingEdgesTest::noSuchLength);
        DUE.sentence("8: NONE: nobody is IN", TellingEdgesTest::nobodyIsIn);
        DUE.sentence("9: A MARK more of the OPEN STAGE: its number.", TellingEdgesTest::marksAreNumbered);
        DUE.sentence("9: NONE: none is OPEN", TellingEdgesTest::noStageForMarks);
        DUE.sentence("9: NONE: there are 6", TellingEdgesTest::sixMarks);
        DUE.sentence("9: NONE: no such km (1 to LENGTH less 1)", TellingEdgesTest::noSuchKm);
        DUE.sentence("9: NONE: no such km (rising)", TellingEdgesTest::kmRise);
        DUE.sentence("9: NONE: no such CLASS", TellingEdgesTest::noSuchClass);
        DUE.sentence("10: A FINISH: true.", TellingEdgesTest::finishesAreTold);
        DUE.sentence("10: false: none is OPEN", TellingEdgesTest::noStageForFinishes);
        DUE.sentence("10: false: it can't be (1 to 999999)", TellingEdgesTest::noSuchFinish);
        DUE.sentence("10: false: it can't be (of RIDERS that are IN)", TellingEdgesTest::nobodyFinishes);
        DUE.sentence("10: false: he has one", TellingEdgesTest::oneFinishEach);
        DUE.sentence("11: Over a MARK comes a RIDER, the next one: his place there.", TellingEdgesTest::placesOver);
        DUE.sentence("11: NONE: none is OPEN", TellingEdgesTest::noStageForCrossings);
        DUE.sentence("11: NONE: it can't be (MARKS)", TellingEdgesTest::noSuchMark);
        DUE.sentence("11: NONE: it can't be (of RIDERS that are IN)", TellingEdgesTest::nobodyCrosses);
        DUE.sentence("11: NONE: he came over it", TellingEdgesTest::oneCrossingEach);
        DUE.sentence("12: A MISHAP: true.", TellingEdgesTest::mishapsAreTold);
        DUE.sentence("12: false: none is OPEN", TellingEdgesTest::noStageForMishaps);
        DUE.sentence("12: false: it can't be (0 to LENGTH)", TellingEdgesTest::noSuchKmFromTheEnd);
        DUE.sentence("12: false: it can't be (of RIDERS that are IN)", TellingEdgesTest::nobodyFalls);
        DUE.sentence("12: false: it can't be (WITH another RIDER that is IN, or NONE)", TellingEdgesTest::noSuchCompany);
        DUE.sentence("12: false: he had one", TellingEdgesTest::oneMishapEach);
        DUE.close();
    }

    // ---- 1

    private static void nobody() {
        BunchTimes x = new BunchTimes();
        for (int what = 0; what <= 6; what++) {
            DUE.same("count(" + what + ")", 0, x.count(what));
        }
        DUE.noSuchElement("of(0, 0)", x, 0, 0);
        DUE.same("total(0, false)", -1000000, x.total(0, false));
        DUE.same("total(0, true)", -1000000, x.total(0, true));
        DUE.none("told(0, 0)", x.told(0, 0));
        DUE.none("list(0, 0)", x.list(0, 0));
        DUE.none("jersey(0, true)", x.jersey(0, true));
        DUE.none("needs(0)", x.needs(0));
        DUE.same("count(9)", 0, x.count(9));
    }

    private static void rulesAtFirst() {
        BunchTimes x = new BunchTimes();
        DUE.same("GAP", 10, x.count(7));
        DUE.same("ZONE", 3, x.count(8));
        x = Races.closed(0, 100, 100000, 100009, 100019);
        DUE.same("9 tenths are one bunch, 10 are not", 2, x.told(0, 3));
    }

    // ---- 6

    private static void teamsAreNumbered() {
        BunchTimes x = Races.finishing();
        for (int t = 2; t < 6; t++) {
            DUE.same("while a stage is open, with a finish", t, x.team());
            DUE.same("teams", t + 1, x.count(0));
        }
        DUE.same("the first", 0, new BunchTimes().team());
    }

    private static BunchTimes sixTold() {
        BunchTimes x = Races.between();
        for (int t = 2; t < 6; t++) {
            x.team();
        }
        return x;
    }

    private static void sixTeams() {
        DUE.same("there are", 6, sixTold().count(0));
        DUE.refusedNone("the seventh", TellingEdgesTest::sixTold, BunchTimes::team);
        DUE.same("the last is one", 4, sixTold().rider(5, 30));
    }

    // ---- 7

    private static void ridersAreNumbered() {
        BunchTimes x = new BunchTimes();
        for (int t = 0; t < 6; t++) {
            x.team();
        }
        for (int r = 0; r < 16; r++) {
            DUE.same("rider", r, x.rider(r % 6, 16 + r));
            DUE.same("riders", r + 1, x.count(1));
        }
        for (int r = 0; r < 16; r++) {
            DUE.same("team of " + r, r % 6, x.of(r, 0));
            DUE.same("age of " + r, 16 + r, x.of(r, 1));
        }
        DUE.same("behind a closed stage", 4, Races.between().rider(1, 30));
    }

    private static void ridersAreIn() {
        BunchTimes x = Races.with(1);
        DUE.same("in", 1, x.of(0, 2));
        DUE.same("those in", 1, x.count(2));
        x = Races.between();
        DUE.same("three are in", 3, x.count(2));
        x.rider(0, 30);
        DUE.same("in, though a stage was closed", 1, x.of(4, 2));
        DUE.same("four are in", 4, x.count(2));
    }

    private static void sixteenRiders() {
        DUE.same("the sixteenth", 15, Races.with(15).rider(0, 30));
        DUE.refusedNone("the seventeenth", () -> Races.with(16), x -> x.rider(0, 30));
        BunchTimes x = Races.with(16);
        x.stage(0, 100);
        x.finish(0, 100000);
        x.close();
        DUE.none("though fifteen are out", x.rider(0, 30));
        DUE.same("riders", 16, x.count(1));
    }

    private static void noSuchTeam() {
        DUE.refusedNone("there is none", BunchTimes::new, x -> x.rider(0, 30));
        for (int team : new int[] {FAR_BELOW, -1, 2, 6, FAR}) {
            DUE.refusedNone("team " + team + " of two", Races::between, x -> x.rider(team, 30));
        }
        for (int team : new int[] {FAR_BELOW, -1, 6, FAR}) {
            DUE.refusedNone("team " + team + " of six", TellingEdgesTest::sixTold, x -> x.rider(team, 30));
        }
        DUE.same("team 0", 4, Races.between().rider(0, 30));
        DUE.same("team 1", 4, Races.between().rider(1, 30));
    }

    private static void noSuchAge() {
        for (int age : new int[] {FAR_BELOW, -16, 0, 15, 51, FAR}) {
            DUE.refusedNone("age " + age, Races::between, x -> x.rider(0, age));
        }
        for (int age : new int[] {16, 50}) {
            BunchTimes x = Races.between();
            DUE.same("age " + age, 4, x.rider(0, age));
            DUE.same("it is told", age, x.of(4, 1));
        }
    }

    private static void ridersAheadOfFinishes() {
        DUE.refusedNone("a finish", Races::finishing, x -> x.rider(0, 30));
        BunchTimes x = Races.open();
        DUE.same("a stage is open, without one", 4, x.rider(0, 30));
        DUE.yes("he can come in", x.finish(4, 90000));
        DUE.none("behind his", x.rider(0, 30));
        x.quit(4);
        DUE.same("what was told of him is none", 5, x.rider(0, 30));
        x.finish(5, 90000);
        x.close();
        DUE.same("the stage is closed", 6, x.rider(0, 30));
        x = Races.with(1);
        x.stage(0, 100);
        x.rider(0, 30);
        x.rider(0, 30);
        x.finish(0, 100000);
        DUE.yes("who is told in the open stage counts from then on", x.finish(2, 100000));
        DUE.same("without a finish he is out then", 1, x.close());
        DUE.same("out", 0, x.of(1, 2));
        DUE.same("in", 1, x.of(2, 2));
    }

    // ---- 8

    private static void stagesAreNumbered() {
        BunchTimes x = Races.with(1);
        for (int s = 0; s < 8; s++) {
            DUE.same("stage", s, x.stage(s % 4, 100));
            DUE.same("stages", s + 1, x.count(3));
            DUE.same("it is open", s, x.count(4));
            DUE.yes("a finish can be told", x.finish(0, 100000));
            DUE.same("it is closed", 0, x.close());
        }
    }

    private static BunchTimes eightClosed() {
        BunchTimes x = Races.with(2);
        for (int s = 0; s < 8; s++) {
            x.stage(0, 100);
            Races.come(x, 100000, 100000);
            x.close();
        }
        return x;
    }

    private static void eightStages() {
        DUE.same("closed", 8, eightClosed().count(4));
        DUE.refusedNone("the ninth", TellingEdgesTest::eightClosed, x -> x.stage(0, 100));
    }

    private static void oneIsOpen() {
        DUE.refusedNone("one is", Races::open, x -> x.stage(1, 50));
        DUE.refusedNone("with a finish", Races::finishing, x -> x.stage(1, 50));
        BunchTimes x = Races.finishing();
        x.close();
        DUE.same("it is closed", 2, x.stage(1, 50));
    }

    private static void noSuchKind() {
        for (int kind : new int[] {FAR_BELOW, -1, 4, FAR}) {
            DUE.refusedNone("kind " + kind, Races::between, x -> x.stage(kind, 100));
        }
        for (int kind = 0; kind < 4; kind++) {
            BunchTimes x = Races.between();
            DUE.same("kind " + kind, 1, x.stage(kind, 100));
            x.finish(0, 90000);
            x.close();
            DUE.same("it is told", kind, x.told(1, 0));
        }
    }

    private static void noSuchLength() {
        for (int length : new int[] {FAR_BELOW, -1, 0, 301, FAR}) {
            DUE.refusedNone("length " + length, Races::between, x -> x.stage(0, length));
        }
        for (int length : new int[] {1, 300}) {
            BunchTimes x = Races.between();
            DUE.same("length " + length, 1, x.stage(0, length));
            x.finish(0, 90000);
            x.close();
            DUE.same("it is told", length, x.told(1, 1));
        }
    }

    private static void nobodyIsIn() {
        DUE.refusedNone("nobody", BunchTimes::new, x -> x.stage(0, 100));
        DUE.refusedNone("a team of nobody", () -> Races.with(0), x -> x.stage(0, 100));
        DUE.same("one", 0, Races.with(1).stage(0, 100));
    }

    // ---- 9

    private static void marksAreNumbered() {
        BunchTimes x = Races.with(1);
        for (int s = 0; s < 2; s++) {
            x.stage(0, 100);
            DUE.same("none", 0, x.count(5));
            for (int m = 0; m < 6; m++) {
                DUE.same("mark", m, x.mark(10 + m, m % 5));
                DUE.same("marks", m + 1, x.count(5));
            }
            x.finish(0, 100000);
            x.close();
        }
        x.stage(0, 100);
        x.finish(0, 100000);
        DUE.same("behind a finish", 0, x.mark(10, 0));
        DUE.same("which counts from then on", 1, x.over(0, 0));
    }

    private static void noStageForMarks() {
        DUE.refusedNone("ahead of any", () -> Races.with(1), x -> x.mark(10, 0));
        DUE.refusedNone("it is closed", Races::between, x -> x.mark(20, 0));
    }

    private static BunchTimes sixTaken() {
        BunchTimes x = Races.open();
        for (int km = 50; km <= 53; km++) {
            x.mark(km, 3);
        }
        return x;
    }

    private static void sixMarks() {
        DUE.same("there are", 6, sixTaken().count(5));
        DUE.refusedNone("the seventh", TellingEdgesTest::sixTaken, x -> x.mark(99, 0));
        DUE.same("the sixth is one", 1, sixTaken().over(5, 0));
    }

    private static BunchTimes ofLength(int length) {
        BunchTimes x = Races.with(1);
        x.stage(0, length);
        return x;
    }

    private static void noSuchKm() {
        for (int km : new int[] {FAR_BELOW, -1, 0, 100, 101, FAR}) {
            DUE.refusedNone("km " + km + " of 100", () -> ofLength(100), x -> x.mark(km, 0));
        }
        DUE.same("km 1", 0, ofLength(100).mark(1, 0));
        DUE.same("km 99", 0, ofLength(100).mark(99, 0));
        for (int km = 0; km <= 2; km++) {
            int at = km;
            DUE.refusedNone("km " + km + " of 1", () -> ofLength(1), x -> x.mark(at, 0));
        }
        DUE.same("the only one of 2", 0, ofLength(2).mark(1, 0));
        DUE.refusedNone("km 2 of 2", () -> ofLength(2), x -> x.mark(2, 0));
        DUE.same("km 299 of 300", 0, ofLength(300).mark(299, 0));
        DUE.refusedNone("km 300 of 300", () -> ofLength(300), x -> x.mark(300, 0));
    }

    private static void kmRise() {
        for (int km : new int[] {1, 10, 19, 20}) {
            DUE.refusedNone("km " + km + " behind 20", Races::open, x -> x.mark(km, 0));
        }
        DUE.same("km 21", 2, Races.open().mark(21, 0));
        BunchTimes x = Races.open();
        x.mark(200, 0);
        DUE.same("one that was refused is not ahead", 2, x.mark(21, 0));
        DUE.none("the one told is", x.mark(21, 0));
        x = Races.with(1);
        x.stage(0, 100);
        x.mark(90, 0);
        x.finish(0, 100000);
        x.close();
        x.stage(0, 100);
        DUE.same("not behind another stage's", 0, x.mark(1, 0));
    }

    private static void noSuchClass() {
        for (int how : new int[] {FAR_BELOW, -1, 5, FAR}) {
            DUE.refusedNone("class " + how, Races::open, x -> x.mark(50, how));
        }
        for (int how = 0; how <= 4; how++) {
            DUE.same("class " + how, 2, Races.open().mark(50, how));
        }
    }

    // ---- 10

    private static void finishesAreTold() {
        BunchTimes x = Races.with(16);
        x.stage(3, 100);
        for (int r = 15; r >= 0; r--) {
            DUE.yes("rider " + r, x.finish(r, 100000 + r));
            DUE.same("finishes", 16 - r, x.count(6));
        }
        x.close();
        for (int r = 0; r < 16; r++) {
            DUE.same("of rider " + r, 100000 + r, x.result(0, r, 0));
        }
    }

    private static void noStageForFinishes() {
        DUE.refused("ahead of any", () -> Races.with(1), x -> x.finish(0, 100000));
        DUE.refused("it is closed", Races::between, x -> x.finish(0, 100000));
    }

    private static void noSuchFinish() {
        for (int tenths : new int[] {FAR_BELOW, -1, 0, 1000000, FAR}) {
            DUE.refused("tenths " + tenths, Races::open, x -> x.finish(1, tenths));
        }
        for (int tenths : new int[] {1, 999999}) {
            BunchTimes x = Races.open();
            DUE.yes("tenths " + tenths, x.finish(1, tenths));
            x.close();
            DUE.same("they are told", tenths, x.result(1, 1, 0));
        }
    }

    private static void nobodyFinishes() {
        for (int rider : new int[] {FAR_BELOW, -1, 4, 16, FAR}) {
            DUE.refused("rider " + rider, Races::open, x -> x.finish(rider, 100000));
        }
        DUE.refused("who is out", Races::open, x -> x.finish(3, 100000));
        DUE.yes("the first", Races.open().finish(0, 100000));
        DUE.yes("the last that is in", Races.open().finish(2, 100000));
    }

    private static void oneFinishEach() {
        DUE.refused("another", Races::finishing, x -> x.finish(0, 80000));
        DUE.refused("the same", Races::finishing, x -> x.finish(0, 90000));
        DUE.yes("another's", Races.finishing().finish(1, 90000));
    }

    // ---- 11

    private static void placesOver() {
        BunchTimes x = Races.with(16);
        x.stage(0, 100);
        for (int m = 0; m < 6; m++) {
            x.mark(m + 1, 0);
        }
        for (int r = 0; r < 16; r++) {
            DUE.same("over the first", r + 1, x.over(0, r));
            DUE.same("over the last, the other way round", r + 1, x.over(5, 15 - r));
        }
        DUE.same("first over another", 1, x.over(3, 7));
    }

    private static void noStageForCrossings() {
        DUE.refusedNone("ahead of any", () -> Races.with(1), x -> x.over(0, 0));
        DUE.refusedNone("it is closed", Races::between, x -> x.over(0, 0));
    }

    private static void noSuchMark() {
        DUE.refusedNone("there are none", () -> ofLength(100), x -> x.over(0, 0));
        for (int mark : new int[] {FAR_BELOW, -1, 2, 6, FAR}) {
            DUE.refusedNone("mark " + mark + " of two", Races::open, x -> x.over(mark, 2));
        }
        for (int mark : new int[] {FAR_BELOW, -1, 6, FAR}) {
            DUE.refusedNone("mark " + mark + " of six", TellingEdgesTest::sixTaken, x -> x.over(mark, 2));
        }
        DUE.same("mark 0", 2, Races.open().over(0, 2));
        DUE.same("mark 1", 2, Races.open().over(1, 2));
    }

    private static void nobodyCrosses() {
        for (int rider : new int[] {FAR_BELOW, -1, 4, 16, FAR}) {
            DUE.refusedNone("rider " + rider, Races::open, x -> x.over(0, rider));
        }
        DUE.refusedNone("who is out", Races::open, x -> x.over(0, 3));
        DUE.same("the last that is in", 2, Races.open().over(0, 2));
    }

    private static void oneCrossingEach() {
        DUE.refusedNone("the first again", Races::open, x -> x.over(0, 0));
        BunchTimes x = Races.open();
        x.over(0, 2);
        x.over(0, 1);
        DUE.none("the one in the middle again", x.over(0, 2));
        DUE.none("the last again", x.over(0, 1));
        DUE.same("over another he can", 2, x.over(1, 0));
    }

    // ---- 12

    private static void mishapsAreTold() {
        BunchTimes x = Races.with(16);
        x.stage(0, 100);
        for (int r = 0; r < 16; r++) {
            DUE.yes("rider " + r, x.fall(r, r, 15 - r));
        }
        DUE.yes("with nobody", Races.open().fall(1, 5, BunchTimes.NONE));
        x = Races.finishing();
        DUE.yes("behind his finish", x.finish(1, 90500) && x.fall(1, 0, 0));
        x.close();
        DUE.same("it counts", 9000, x.result(1, 1, 2));
        DUE.yes("once in each stage", x.stage(0, 100) == 2 && x.fall(1, 0, 0));
    }

    private static void noStageForMishaps() {
        DUE.refused("ahead of any", () -> Races.with(2), x -> x.fall(0, 0, 1));
        DUE.refused("it is closed", Races::between, x -> x.fall(0, 0, 1));
    }

    private static void noSuchKmFromTheEnd() {
        for (int km : new int[] {FAR_BELOW, -1, 101, 300, FAR}) {
            DUE.refused("km " + km + " of 100", Races::open, x -> x.fall(1, km, 0));
        }
        DUE.yes("km 0", Races.open().fall(1, 0, 0));
        DUE.yes("km 100", Races.open().fall(1, 100, 0));
        DUE.yes("km 1 of 1", ofLength(1).fall(0, 1, BunchTimes.NONE));
        DUE.no("km 2 of 1", ofLength(1).fall(0, 2, BunchTimes.NONE));
        DUE.yes("km 300 of 300", ofLength(300).fall(0, 300, BunchTimes.NONE));
        DUE.no("km 301 of 300", ofLength(300).fall(0, 301, BunchTimes.NONE));
    }

    private static void nobodyFalls() {
        for (int rider : new int[] {FAR_BELOW, -1, 4, 16, FAR}) {
            DUE.refused("rider " + rider, Races::open, x -> x.fall(rider, 1, 0));
            DUE.refused("rider " + rider + " with nobody", Races::open, x -> x.fall(rider, 1, BunchTimes.NONE));
        }
        DUE.refused("who is out", Races::open, x -> x.fall(3, 1, 0));
        DUE.yes("the last that is in", Races.open().fall(2, 1, 0));
    }

    private static void noSuchCompany() {
        for (int with : new int[] {FAR_BELOW, -2, 4, 16, FAR}) {
            DUE.refused("with " + with, Races::open, x -> x.fall(1, 1, with));
        }
        DUE.refused("with himself", Races::open, x -> x.fall(1, 1, 1));
        DUE.refused("with one that is out", Races::open, x -> x.fall(1, 1, 3));
        DUE.yes("with the first", Races.open().fall(1, 1, 0));
        DUE.yes("with the last that is in", Races.open().fall(1, 1, 2));
        DUE.yes("with none", Races.open().fall(1, 1, BunchTimes.NONE));
    }

    private static void oneMishapEach() {
        DUE.refused("another", Races::open, x -> x.fall(0, 1, 2));
        DUE.refused("the same", Races::open, x -> x.fall(0, 2, 1));
        BunchTimes x = Races.open();
        x.fall(1, 0, BunchTimes.NONE);
        DUE.no("behind one at km 0 with nobody", x.fall(1, 1, 0));
    }
}
