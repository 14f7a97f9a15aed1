import java.util.function.Consumer;

/** Promises 18 to 21 at their edges, sentence by sentence: keeping, going back, counting, of a rider. */
final class KeepingEdgesTest {
    private static final Due DUE = new Due();
    private static final int FAR = Integer.MAX_VALUE;
    private static final int FAR_BELOW = Integer.MIN_VALUE;

    public static void main(String[] args) {
        DUE.sentence("18: All is kept (slot 0, 1): true.", KeepingEdgesTest::allIsKept);
        DUE.sentence("18: but the TAPE", KeepingEdgesTest::butTheTape);
        DUE.sentence("18: but its FAULT", KeepingEdgesTest::butItsFault);
        DUE.sentence("18: but what is kept", KeepingEdgesTest::butWhatIsKept);
        DUE.sentence("18: false: no such slot.", KeepingEdgesTest::noSlotToKeep);
        DUE.sentence("19: All is as was kept: true.", KeepingEdgesTest::asWasKept);
        DUE.sentence("19: All is as was kept, though as much as there can be was told behind it", KeepingEdgesTest::allAsWasKept);
        DUE.sentence("19: what was told behind it is none, whatever is told now", KeepingEdgesTest::noneOfWhatWas);
        DUE.sentence("19: (that stays kept)", KeepingEdgesTest::staysKept);
        DUE.sentence("19: false: no such slot", KeepingEdgesTest::noSlotToGoBackTo);
        DUE.sentence("19: false: nothing is kept", KeepingEdgesTest::nothingIsKept);
        DUE.sentence("20: What 0 to 9, nobody and none", KeepingEdgesTest::countsOfNone);
        DUE.sentence("20: What 0 to 9, one", KeepingEdgesTest::countsOfOne);
        DUE.sentence("20: What 0 to 9, as many as there can be", KeepingEdgesTest::countsOfAll);
        DUE.sentence("20: 2: those IN", KeepingEdgesTest::countOfThoseIn);
        DUE.sentence("20: 4: CLOSED ones", KeepingEdgesTest::countOfClosedOnes);
        DUE.sentence("20: 5: MARKS of the latest STAGE (0 without)", KeepingEdgesTest::countOfMarks);
        DUE.sentence("20: 6: FINISHES of it (0)", KeepingEdgesTest::countOfFinishes);
        DUE.sentence("20: NONE for another what.", KeepingEdgesTest::anotherCount);
        DUE.sentence("21: 2: whether he is IN (1, 0)", KeepingEdgesTest::whetherHeIsIn);
        DUE.sentence("21: 3 to 6: none, one, eight STAGES", KeepingEdgesTest::gainsInAll);
        DUE.sentence("21: (of CLOSED STAGES)", KeepingEdgesTest::ofClosedStages);
        DUE.sentence("21: NoSuchElementException: there is none such", KeepingEdgesTest::noSuchRider);
        DUE.sentence("21: NoSuchElementException: another what", KeepingEdgesTest::anotherOf);
        DUE.close();
    }

    // ---- 18

    private static void allIsKept() {
        for (int slot = 0; slot < 2; slot++) {
            BunchTimes x = new BunchTimes();
            DUE.yes("nothing told can be kept", x.keep(slot));
            Races.more(x, "team;rider 0 20;gap 5;");
            DUE.yes("back", x.back(slot));
            DUE.same("teams", 0, x.count(0));
            DUE.same("gap", 10, x.count(7));
            x = Races.finishing();
            DUE.yes("keep", x.keep(slot));
            DUE.same("it changes nothing: finishes", 1, x.count(6));
            Races.more(x, "team;come 1 95000;quit 2;gap 7;zone 1;jury 0 9;close;rider 0 20;stage trial 7;");
            DUE.yes("back", x.back(slot));
            BunchTimes same = Races.finishing();
            same.keep(slot);
            DUE.sameText("slot " + slot, Answers.revealed(same), Answers.revealed(x));
        }
    }

    private static void butTheTape() {
        BunchTimes x = new BunchTimes();
        x.feed(0x7465616d, 0x3b202020, 0x20202020, 0x20202020, 0x20202020);
        DUE.yes("keep", x.keep(0));
        DUE.same("it stays", 20, x.count(9));
        x.end(5);
        DUE.yes("back", x.back(0));
        DUE.same("it stays as it is by now", 5, x.count(9));
        DUE.same("it can be told", 1, x.tell());
        DUE.yes("back", x.back(0));
        DUE.same("it does not come back", 0, x.count(9));
    }

    private static void butItsFault() {
        BunchTimes x = new BunchTimes();
        Due.text(x, "?");
        x.keep(0);
        DUE.same("it stays", 1, x.fault());
        Due.text(x, "gap 0;");
        x.back(0);
        DUE.same("it stays as it is by now", 2 + 8 * 4, x.fault());
        Due.text(x, "team;");
        x.back(0);
        DUE.same("none by now", 0, x.fault());
    }

    private static void butWhatIsKept() {
        BunchTimes x = Races.with(1);
        x.keep(0);
        x.rider(0, 20);
        x.keep(1);
        x.rider(0, 20);
        x.back(0);
        DUE.same("of slot 0", 1, x.count(1));
        DUE.yes("slot 1 is kept still", x.back(1));
        DUE.same("of slot 1", 2, x.count(1));
        x.keep(0);
        x.rider(0, 20);
        x.back(0);
        DUE.same("of slot 0, kept anew", 2, x.count(1));
        BunchTimes y = new BunchTimes();
        y.keep(0);
        y.keep(1);
        y.team();
        y.keep(1);
        y.back(0);
        y.back(1);
        DUE.same("what was kept behind the other", 1, y.count(0));
        Due.text(y, "team;?");
        DUE.yes("a failed text leaves it", y.back(1));
        DUE.same("teams", 1, y.count(0));
    }

    private static void noSlotToKeep() {
        for (int slot : new int[] {FAR_BELOW, -1, 2, FAR}) {
            DUE.refused("keep " + slot, Races::finishing, x -> x.keep(slot));
            DUE.refused("keep " + slot, BunchTimes::new, x -> x.keep(slot));
        }
    }

    // ---- 19

    private static void asWasKept() {
        BunchTimes x = Races.open();
        x.keep(1);
        Races.more(x, "over 0 1 2;over 1 0;fall 1 1;jury 1 5;grace 1;come 0 90000 2 90000;quit 0;close;");
        DUE.yes("a stage that was open", x.back(1));
        DUE.same("is open", 1, x.count(4));
        DUE.yes("what was none is none", x.fall(1, 1, 0) && x.grace(1) && x.over(0, 1) == 2 && x.jury(1, 1) == 1);
        DUE.no("what was told is told", x.fall(0, 2, 1) || x.grace(0) || x.over(0, 0) != -1);
        DUE.yes("a closed one", x.back(0));
        DUE.same("is closed", 1, x.count(4));
        DUE.same("there is no other", 1, x.count(3));
        DUE.none("none is open", x.close());
    }

    /** Tells a race of a number to an object to which nothing is told: two full ones, and one of which all is little. */
    private static void tellRace(BunchTimes x, int race) {
        if (race < 2) {
            FullRace.tell(x, race);
        } else {
            Races.more(x, "team;rider 0 50;rider 0 16;stage trial 30;come 1 9000;close;rider 0 33;stage peaks 40;");
        }
    }

    /** One race is told, and kept; then, from none told on, another; then it goes back to the first. */
    private static void tellAndGoBack(BunchTimes x, int race, int other) {
        x.keep(1);
        tellRace(x, race);
        x.keep(0);
        x.back(1);
        tellRace(x, other);
        x.back(0);
    }

    /** Another race is told whole; then, from none told on, the one. */
    private static void tellAnew(BunchTimes x, int race, int other) {
        x.keep(1);
        tellRace(x, other);
        FullRace.reveal(x);
        x.back(1);
        tellRace(x, race);
    }

    private static BunchTimes raced(Consumer<BunchTimes> telling, boolean reveals) {
        BunchTimes x = new BunchTimes();
        telling.accept(x);
        if (reveals) {
            FullRace.reveal(x);
        }
        return x;
    }

    /** That a race is as one to which nothing else was told; once as it is, and once with its open stage closed. */
    private static void asToldAlone(int race, int other, Consumer<BunchTimes> telling) {
        for (boolean reveals : new boolean[] {false, true}) {
            DUE.sameRace("race " + race + " behind " + other + ", revealed: " + reveals, () -> raced(x -> tellRace(x, race), reveals),
                () -> raced(telling, reveals));
        }
    }

    private static final int[][] RACES = {{0, 1}, {1, 0}, {0, 2}, {2, 0}, {2, 1}};

    private static void allAsWasKept() {
        for (int[] r : RACES) {
            asToldAlone(r[0], r[1], x -> tellAndGoBack(x, r[0], r[1]));
        }
    }

    private static void noneOfWhatWas() {
        for (int[] r : RACES) {
            asToldAlone(r[0], r[1], x -> tellAnew(x, r[0], r[1]));
        }
        BunchTimes x = Races.with(2);
        x.keep(0);
        Races.more(x, "stage flat 100 at 10 sprint;over 0 1 0;fall 1 0 with 0;jury 1 9;grace 1;come 0 100000 1 100100;");
        x.back(0);
        x.stage(0, 100);
        DUE.same("marks", 0, x.count(5));
        DUE.same("finishes", 0, x.count(6));
        x.mark(20, 0);
        DUE.same("over it", 1, x.over(0, 0));
        DUE.yes("grace", x.grace(1));
        DUE.same("jury", 1, x.jury(1, 1));
        DUE.yes("mishap", x.fall(1, 5, 0));
        DUE.yes("finish", x.finish(1, 100100));
    }

    private static void staysKept() {
        BunchTimes x = Races.finishing();
        for (int n = 0; n < 3; n++) {
            DUE.yes("back", x.back(0));
            DUE.same("stages", 1, x.count(3));
            DUE.same("teams", 2, x.count(0));
            DUE.same("total", 3990, x.total(0, false));
            // What is told by now must not reach what is kept.
            Races.more(x, "team;rider 0 20;stage flat 50;come 0 90000 1 90000 2 90000 4 99;close;gap 50;");
        }
    }

    private static void noSlotToGoBackTo() {
        for (int slot : new int[] {FAR_BELOW, -1, 2, FAR}) {
            DUE.refused("back " + slot, Races::finishing, x -> x.back(slot));
        }
    }

    private static void nothingIsKept() {
        DUE.refused("in slot 1", Races::finishing, x -> x.back(1));
        DUE.refused("in slot 0", Races::between, x -> x.back(0));
        BunchTimes x = Races.with(1);
        x.keep(1);
        DUE.no("in slot 0", x.back(0));
        DUE.yes("in slot 1 there is", x.back(1));
    }

    // ---- 20

    private static void counts(BunchTimes x, int... want) {
        for (int what = 0; what < 10; what++) {
            DUE.same("count(" + what + ")", want[what], x.count(what));
        }
    }

    private static void countsOfNone() {
        counts(new BunchTimes(), 0, 0, 0, 0, 0, 0, 0, 10, 3, 0);
    }

    private static void countsOfOne() {
        BunchTimes x = Races.with(1);
        x.rule(0, 1);
        x.rule(1, 1);
        x.stage(0, 9);
        x.mark(1, 0);
        x.finish(0, 9000);
        x.feed(0, 0, 0, 0, 0);
        x.end(1);
        counts(x, 1, 1, 1, 1, 0, 1, 1, 1, 1, 1);
        x.close();
        counts(x, 1, 1, 1, 1, 1, 1, 1, 1, 1, 1);
    }

    private static void countsOfAll() {
        BunchTimes x = Races.with(16);
        for (int t = 1; t < 6; t++) {
            x.team();
        }
        x.rule(0, 99);
        x.rule(1, 9);
        for (int s = 0; s < 8; s++) {
            x.stage(0, 100);
            for (int m = 1; m <= 6; m++) {
                x.mark(m, 0);
            }
            for (int r = 0; r < 16; r++) {
                x.finish(r, 100000);
            }
            x.close();
        }
        for (int n = 0; n < 30; n++) {
            x.feed(0, 0, 0, 0, 0);
        }
        counts(x, 6, 16, 16, 8, 8, 6, 16, 99, 9, 600);
    }

    private static void countOfThoseIn() {
        BunchTimes x = Races.with(3);
        DUE.same("all", 3, x.count(2));
        x.stage(0, 100);
        x.quit(1);
        DUE.same("one has quit", 2, x.count(2));
        x.finish(0, 100000);
        DUE.same("one has no finish yet", 2, x.count(2));
        x.close();
        DUE.same("nor has he when it is closed", 1, x.count(2));
        x.stage(0, 100);
        x.quit(0);
        DUE.same("nobody", 0, x.count(2));
        DUE.same("riders", 3, x.count(1));
    }

    private static void countOfClosedOnes() {
        BunchTimes x = Races.open();
        DUE.same("stages", 2, x.count(3));
        DUE.same("one is open", 1, x.count(4));
        x.finish(0, 90000);
        x.close();
        DUE.same("both are closed", 2, x.count(4));
    }

    private static void countOfMarks() {
        BunchTimes x = Races.between();
        DUE.same("of a closed one", 2, x.count(5));
        x.stage(0, 100);
        DUE.same("of one without", 0, x.count(5));
        x.mark(50, 0);
        DUE.same("one", 1, x.count(5));
    }

    private static void countOfFinishes() {
        BunchTimes x = Races.between();
        DUE.same("of a closed one", 3, x.count(6));
        x.stage(0, 100);
        DUE.same("of one without", 0, x.count(6));
        x.finish(0, 90000);
        x.finish(0, 90001);
        DUE.same("one", 1, x.count(6));
        x.quit(0);
        DUE.same("none is left", 0, x.count(6));
        x.quit(1);
        DUE.same("who had none takes none away", 0, x.count(6));
    }

    private static void anotherCount() {
        for (int what : new int[] {FAR_BELOW, -1, 10, FAR}) {
            DUE.none("count(" + what + ")", Races.finishing().count(what));
        }
    }

    // ---- 21

    private static void whetherHeIsIn() {
        BunchTimes x = Races.finishing();
        DUE.same("in", 1, x.of(0, 2));
        DUE.same("out without a finish", 0, x.of(3, 2));
        x.quit(0);
        DUE.same("out by quitting", 0, x.of(0, 2));
        DUE.same("his team is told still", 0, x.of(0, 0));
        DUE.same("his age, too", 20, x.of(0, 1));
    }

    private static void gainsInAll() {
        BunchTimes x = Races.with(1);
        for (int s = 0; s <= 8; s++) {
            DUE.same("points", 35 * s, x.of(0, 3));
            DUE.same("dots", 10 * s, x.of(0, 4));
            DUE.same("bonus", 13 * s, x.of(0, 5));
            DUE.same("jury", 3600 * s, x.of(0, 6));
            x.stage(0, 100);
            x.mark(10, 0);
            x.mark(20, 1);
            x.over(0, 0);
            x.over(1, 0);
            x.jury(0, 3600);
            x.finish(0, 100000);
            x.close();
        }
    }

    private static void ofClosedStages() {
        BunchTimes x = Races.with(1);
        x.stage(0, 100);
        x.mark(10, 0);
        x.mark(20, 1);
        x.over(0, 0);
        x.over(1, 0);
        x.jury(0, 5);
        x.finish(0, 100000);
        for (int what = 3; what <= 6; what++) {
            DUE.same("of an open one none, what " + what, 0, x.of(0, what));
        }
        x.close();
        int[] want = {35, 10, 13, 5};
        for (int what = 3; what <= 6; what++) {
            DUE.same("of a closed one, what " + what, want[what - 3], x.of(0, what));
        }
    }

    private static void noSuchRider() {
        for (int what = 0; what <= 6; what++) {
            DUE.noSuchElement("nobody, what " + what, new BunchTimes(), 0, what);
            for (int rider : new int[] {FAR_BELOW, -1, 4, 16, FAR}) {
                DUE.noSuchElement("of(" + rider + ", " + what + ")", Races.finishing(), rider, what);
            }
            DUE.noSuchElement("the seventeenth, what " + what, Races.with(16), 16, what);
        }
        DUE.same("the last there is", 50, Races.finishing().of(3, 1));
        DUE.same("the sixteenth", 30, Races.with(16).of(15, 1));
    }

    private static void anotherOf() {
        for (int what : new int[] {FAR_BELOW, -1, 7, FAR}) {
            DUE.noSuchElement("of(0, " + what + ")", Races.finishing(), 0, what);
        }
    }
}
