/** Promises 1 and 6 to 17, and 20: what is told by calls. */
final class TellingTest {
    private static final Due DUE = new Due();

    public static void main(String[] args) {
        aNewObject();
        teams();
        riders();
        stages();
        marks();
        finishes();
        crossings();
        falls();
        jury();
        grace();
        quits();
        rules();
        closing();
        counts();
        DUE.close();
    }

    private static void aNewObject() {
        BunchTimes x = new BunchTimes();
        int[] first = {0, 0, 0, 0, 0, 0, 0, 10, 3, 0};
        for (int what = 0; what < first.length; what++) {
            DUE.same("new count(" + what + ")", first[what], x.count(what));
        }
        DUE.same("new fault()", 0, x.fault());
        DUE.none("new told", x.told(0, 0));
        DUE.none("new order", x.order(0, 0));
        DUE.none("new list", x.list(0, 0));
        DUE.none("new close", x.close());
        DUE.no("new back", x.back(0));
        DUE.same("new total", -1000000, x.total(0, false));
        DUE.none("new stage: nobody is in", x.stage(0, 100));
    }

    private static void teams() {
        BunchTimes x = new BunchTimes();
        for (int t = 0; t < 6; t++) {
            DUE.same("team", t, x.team());
        }
        DUE.none("the seventh team", x.team());
        DUE.same("teams", 6, x.count(0));
    }

    private static void riders() {
        BunchTimes x = new BunchTimes();
        DUE.none("no team", x.rider(0, 20));
        x.team();
        DUE.none("team -1", x.rider(-1, 20));
        DUE.none("team 1", x.rider(1, 20));
        DUE.none("age 15", x.rider(0, 15));
        DUE.none("age 51", x.rider(0, 51));
        DUE.same("age 16", 0, x.rider(0, 16));
        DUE.same("age 50", 1, x.rider(0, 50));
        x.stage(0, 100);
        DUE.same("ahead of all finishes", 2, x.rider(0, 20));
        x.finish(2, 500);
        DUE.none("a finish is told", x.rider(0, 20));
        x.quit(2);
        DUE.same("the finish is none by then", 3, x.rider(0, 20));
        x.finish(0, 500);
        x.close();
        for (int r = 4; r < 16; r++) {
            DUE.same("rider", r, x.rider(0, 20));
        }
        DUE.none("the seventeenth", x.rider(0, 20));
        DUE.same("riders", 16, x.count(1));
        DUE.same("those in", 13, x.count(2));
    }

    private static void stages() {
        BunchTimes x = Races.with(2);
        DUE.none("kind -1", x.stage(-1, 100));
        DUE.none("kind 4", x.stage(4, 100));
        DUE.none("length 0", x.stage(0, 0));
        DUE.none("length 301", x.stage(0, 301));
        for (int s = 0; s < 8; s++) {
            DUE.same("stage", s, x.stage(s % 4, s % 2 == 0 ? 1 : 300));
            DUE.none("one is open", x.stage(0, 100));
            x.finish(0, 5000);
            x.finish(1, 5000);
            x.close();
        }
        DUE.none("the ninth", x.stage(0, 100));
        x = Races.with(1);
        x.stage(0, 100);
        x.quit(0);
        DUE.none("it can't be closed", x.close());
        DUE.none("it is open still", x.stage(0, 100));
    }

    private static void marks() {
        BunchTimes x = Races.with(1);
        DUE.none("none is open", x.mark(1, 0));
        x.stage(0, 100);
        DUE.none("km 0", x.mark(0, 0));
        DUE.none("km 100", x.mark(100, 0));
        DUE.none("class -1", x.mark(1, -1));
        DUE.none("class 5", x.mark(1, 5));
        DUE.same("km 1", 0, x.mark(1, 0));
        DUE.none("km 1 again", x.mark(1, 4));
        for (int m = 1; m < 5; m++) {
            DUE.same("mark", m, x.mark(m * 10, m));
        }
        DUE.none("not rising", x.mark(39, 0));
        DUE.same("km 99", 5, x.mark(99, 4));
        DUE.same("marks", 6, x.count(5));
        x.finish(0, 100);
        x.close();
        DUE.same("of the latest, closed too", 6, x.count(5));
        x.stage(0, 100);
        for (int m = 0; m < 6; m++) {
            DUE.same("mark", m, x.mark(m + 1, 0));
        }
        DUE.none("the seventh", x.mark(50, 0));
        x.finish(0, 100);
        x.close();
        x.stage(0, 1);
        DUE.none("no way for one", x.mark(1, 0));
        DUE.same("none yet", 0, x.count(5));
    }

    private static void finishes() {
        BunchTimes x = Races.with(3);
        DUE.no("none is open", x.finish(0, 100));
        x.stage(0, 100);
        DUE.no("0 tenths", x.finish(0, 0));
        DUE.no("1000000 tenths", x.finish(0, 1000000));
        DUE.no("rider -1", x.finish(-1, 100));
        DUE.no("rider 3", x.finish(3, 100));
        DUE.yes("1 tenth", x.finish(0, 1));
        DUE.no("again", x.finish(0, 1));
        DUE.yes("999999 tenths", x.finish(1, 999999));
        x.quit(2);
        DUE.no("who is out", x.finish(2, 100));
        DUE.same("finishes", 2, x.count(6));
        x.close();
        DUE.same("of the latest, closed too", 2, x.count(6));
        DUE.no("closed", x.finish(0, 100));
    }

    private static void crossings() {
        BunchTimes x = Races.with(4);
        DUE.none("none is open", x.over(0, 0));
        x.stage(0, 100);
        DUE.none("no mark", x.over(0, 0));
        x.mark(10, 0);
        x.mark(20, 1);
        DUE.none("mark -1", x.over(-1, 0));
        DUE.none("mark 2", x.over(2, 0));
        DUE.none("rider -1", x.over(0, -1));
        DUE.none("rider 4", x.over(0, 4));
        DUE.same("first", 1, x.over(0, 2));
        DUE.none("again", x.over(0, 2));
        DUE.same("second", 2, x.over(0, 0));
        DUE.same("first of another", 1, x.over(1, 0));
        x.quit(2);
        DUE.same("who quits has no place", 2, x.over(0, 3));
        DUE.none("who is out", x.over(1, 2));
        x.quit(3);
        DUE.same("the one ahead keeps his", 2, x.over(0, 1));
        DUE.none("the one ahead is there still", x.over(0, 0));
        x.finish(0, 100);
        x.close();
        DUE.none("closed", x.over(1, 0));
    }

    private static void falls() {
        BunchTimes x = Races.with(4);
        DUE.no("none is open", x.fall(0, 0, -1));
        x.stage(0, 100);
        DUE.no("km -1", x.fall(0, -1, -1));
        DUE.no("km 101", x.fall(0, 101, -1));
        DUE.no("with himself", x.fall(0, 1, 0));
        DUE.no("with nobody there is", x.fall(0, 1, 4));
        DUE.no("with -2", x.fall(0, 1, -2));
        DUE.no("rider 4", x.fall(4, 1, 0));
        DUE.no("rider -1", x.fall(-1, 1, 0));
        DUE.yes("km 0", x.fall(0, 0, 1));
        DUE.no("again", x.fall(0, 1, -1));
        DUE.yes("km 100, none", x.fall(1, 100, -1));
        x.quit(3);
        DUE.no("with one that is out", x.fall(2, 1, 3));
        DUE.no("who is out", x.fall(3, 1, 2));
        DUE.yes("in each stage", x.finish(0, 9) && x.finish(1, 9) && x.close() == 1 && x.stage(0, 5) == 1 && x.fall(0, 5, 1));
    }

    private static void jury() {
        BunchTimes x = Races.with(2);
        DUE.none("none is open", x.jury(0, 5));
        x.stage(0, 100);
        DUE.none("0 seconds", x.jury(0, 0));
        DUE.none("3601 seconds", x.jury(0, 3601));
        DUE.none("rider 2", x.jury(2, 5));
        DUE.none("rider -1", x.jury(-1, 5));
        for (int n = 1; n <= 27; n++) {
            DUE.same("jury", n * 3600, x.jury(0, 3600));
        }
        DUE.none("100000 together", x.jury(0, 2800));
        DUE.same("99999 together", 99999, x.jury(0, 2799));
        DUE.none("one more", x.jury(0, 1));
        DUE.same("another's", 1, x.jury(1, 1));
        DUE.same("not closed", 0, x.of(0, 6));
        x.finish(0, 1000);
        x.close();
        DUE.same("closed", 99999, x.of(0, 6));
        DUE.same("of one who did not come in", 1, x.of(1, 6));
        x.stage(0, 100);
        DUE.same("another stage", 3600, x.jury(0, 3600));
        DUE.none("who is out", x.jury(1, 5));
    }

    private static void grace() {
        BunchTimes x = Races.with(2);
        DUE.no("none is open", x.grace(0));
        x.stage(0, 100);
        DUE.no("rider 2", x.grace(2));
        DUE.no("rider -1", x.grace(-1));
        DUE.yes("grace", x.grace(0));
        DUE.no("again", x.grace(0));
        x.quit(1);
        DUE.no("who is out", x.grace(1));
    }

    private static void quits() {
        BunchTimes x = Races.with(3);
        DUE.no("none is open", x.quit(0));
        x.stage(0, 100);
        x.mark(10, 0);
        x.mark(20, 1);
        x.over(0, 0);
        x.over(0, 1);
        x.over(1, 0);
        x.over(1, 1);
        x.jury(0, 7);
        x.fall(0, 1, 1);
        x.fall(2, 1, 0);
        x.finish(0, 1000);
        x.finish(1, 1500);
        x.finish(2, 1600);
        DUE.no("rider 3", x.quit(3));
        DUE.no("rider -1", x.quit(-1));
        DUE.yes("quit", x.quit(0));
        DUE.no("again", x.quit(0));
        DUE.same("out at once", 2, x.count(2));
        DUE.same("his finish is none", 2, x.count(6));
        DUE.same("nobody goes out by the close", 0, x.close());
        DUE.same("jury", 0, x.of(0, 6));
        DUE.none("result", x.result(0, 0, 0));
        DUE.same("first of the order", 1, x.order(0, 0));
        DUE.same("first over the sprint: 10 and 3", 13, x.result(0, 1, 5));
        DUE.same("first over the climb", 10, x.result(0, 1, 7));
        DUE.same("with one that quit", 160, x.result(0, 2, 2));
    }

    private static void rules() {
        BunchTimes x = Races.with(2);
        DUE.no("gap as it is", x.rule(0, 10));
        DUE.no("zone as it is", x.rule(1, 3));
        DUE.no("gap 0", x.rule(0, 0));
        DUE.no("gap 100", x.rule(0, 100));
        DUE.no("zone -1", x.rule(1, -1));
        DUE.no("zone 10", x.rule(1, 10));
        DUE.no("what 2", x.rule(2, 5));
        DUE.no("what -1", x.rule(-1, 5));
        DUE.yes("gap 1", x.rule(0, 1));
        DUE.yes("zone 0", x.rule(1, 0));
        DUE.yes("gap 99", x.rule(0, 99));
        DUE.yes("zone 9", x.rule(1, 9));
        x.stage(0, 100);
        x.finish(0, 1000);
        x.finish(1, 1050);
        DUE.yes("while it is open", x.rule(0, 50));
        x.close();
        DUE.same("by the gap at the close", 2, x.told(0, 3));
        x.rule(0, 99);
        DUE.same("not by a later one", 2, x.told(0, 3));
        DUE.same("count(7)", 99, x.count(7));
        DUE.same("count(8)", 9, x.count(8));
    }

    private static void closing() {
        BunchTimes x = Races.with(4);
        DUE.none("none is open", x.close());
        x.stage(0, 100);
        DUE.none("no finish", x.close());
        x.finish(1, 1000);
        x.quit(3);
        DUE.same("who has none is out", 2, x.close());
        DUE.none("closed", x.close());
        DUE.same("in", 1, x.of(1, 2));
        DUE.same("out", 0, x.of(0, 2));
        x = Races.with(6);
        x.stage(0, 100);
        for (int r = 0; r < 5; r++) {
            x.finish(r, 100000);
        }
        x.finish(5, 200000);
        DUE.same("five times one late are 5, not more than 6", 1, x.close());
        DUE.same("late", 1, x.told(0, 7));
        DUE.same("not pardoned", 0, x.told(0, 8));
        DUE.same("out", 0, x.of(5, 2));
    }

    private static void counts() {
        BunchTimes x = Races.with(3);
        x.team();
        x.stage(0, 50);
        x.mark(5, 0);
        x.finish(0, 100);
        x.feed(0, 0, 0, 0, 0);
        int[] want = {2, 3, 3, 1, 0, 1, 1, 10, 3, 20};
        for (int what = 0; what < want.length; what++) {
            DUE.same("count(" + what + ")", want[what], x.count(what));
        }
        DUE.none("count(10)", x.count(10));
        DUE.none("count(-1)", x.count(-1));
        x.close();
        DUE.same("closed", 1, x.count(4));
        DUE.same("in", 1, x.count(2));
    }
}
