/** Promises 18 and 19: what is kept and gone back to. */
final class KeepingTest {
    private static final Due DUE = new Due();

    public static void main(String[] args) {
        slots();
        allIsKept();
        butTheTape();
        openStages();
        nothingOfTheOther();
        DUE.close();
    }

    private static void slots() {
        BunchTimes x = Races.with(1);
        DUE.no("slot -1", x.keep(-1));
        DUE.no("slot 2", x.keep(2));
        DUE.no("back -1", x.back(-1));
        DUE.no("back 2", x.back(2));
        DUE.no("nothing is kept", x.back(0));
        DUE.yes("keep 1", x.keep(1));
        DUE.no("nothing is kept in 0", x.back(0));
        DUE.yes("back 1", x.back(1));
        x.rider(0, 20);
        DUE.yes("it stays kept", x.back(1));
        DUE.same("riders", 1, x.count(1));
        x.rider(0, 20);
        x.keep(0);
        x.rider(0, 20);
        x.keep(1);
        x.back(0);
        DUE.same("of slot 0", 2, x.count(1));
        x.back(1);
        DUE.same("of slot 1, kept anew", 3, x.count(1));
    }

    private static void allIsKept() {
        BunchTimes x = Races.with(3);
        x.stage(0, 100);
        x.mark(50, 0);
        x.over(0, 2);
        x.jury(1, 4);
        x.finish(0, 100000);
        x.finish(1, 100500);
        x.finish(2, 100900);
        x.close();
        x.keep(0);
        x.rule(0, 99);
        x.rule(1, 9);
        x.team();
        x.rider(1, 20);
        x.stage(1, 50);
        x.mark(10, 1);
        x.over(0, 1);
        x.fall(1, 1, 0);
        x.jury(1, 50);
        x.quit(0);
        x.finish(1, 90000);
        x.close();
        x.back(0);
        int[] want = {1, 3, 3, 1, 1, 1, 3, 10, 3, 0};
        for (int what = 0; what < want.length; what++) {
            DUE.same("count(" + what + ")", want[what], x.count(what));
        }
        DUE.none("the second stage is gone", x.told(1, 0));
        DUE.same("jury", 4, x.of(1, 6));
        DUE.same("total", 10050 + 4 - 6, x.total(1, false));
        DUE.same("first", 0, x.list(0, 0));
        // The second stage again: nothing of the one that is gone is in it.
        x.stage(2, 100);
        DUE.same("no finishes", 0, x.count(6));
        DUE.same("no marks", 0, x.count(5));
        DUE.yes("finish", x.finish(1, 100000));
        DUE.yes("fall", x.fall(1, 1, 0));
        DUE.same("jury", 1, x.jury(1, 1));
        DUE.same("mark", 0, x.mark(10, 0));
        DUE.same("over", 1, x.over(0, 1));
        x.finish(0, 100500);
        x.close();
        DUE.same("no dots", 0, x.of(1, 4));
        DUE.same("dots of the stage", 0, x.result(1, 1, 7));
    }

    private static void butTheTape() {
        BunchTimes x = Races.with(1);
        x.feed(1, 1, 1, 1, 1);
        x.keep(0);
        x.feed(1, 1, 1, 1, 1);
        x.back(0);
        DUE.same("the tape", 40, x.count(9));
        x.tell();
        DUE.same("fault", 1, x.fault());
        x.back(0);
        DUE.same("the fault", 1, x.fault());
        DUE.same("the tape", 0, x.count(9));
        x.keep(1);
        x.rider(0, 20);
        x.back(0);
        DUE.yes("what is kept in 1 stays", x.back(1));
    }

    private static void openStages() {
        BunchTimes x = Races.with(2);
        x.stage(0, 100);
        x.mark(9, 0);
        x.over(0, 1);
        x.finish(0, 5000);
        x.fall(1, 2, 0);
        x.grace(1);
        x.jury(0, 3);
        x.keep(0);
        x.finish(1, 8000);
        x.close();
        x.back(0);
        DUE.same("open again", 0, x.count(4));
        DUE.none("no lists", x.list(0, 0));
        DUE.no("finish is told", x.finish(0, 1));
        DUE.no("fall is told", x.fall(1, 2, 0));
        DUE.no("grace is told", x.grace(1));
        DUE.same("jury", 5, x.jury(0, 2));
        DUE.none("over is told", x.over(0, 1));
        DUE.yes("the other's is not", x.finish(1, 6000));
        DUE.same("close", 0, x.close());
        DUE.same("time", 500, x.result(0, 1, 2));
    }

    private static final String ONE = "team;team;" + "rider 0 24;rider 1 30;".repeat(4)
        + "stage flat 100 at 10 sprint at 30 climb 1 at 50 climb 2 at 60 climb 3 at 70 climb 4 at 80 sprint;"
        + "come 0 100000 1 100500 2 101000 3 101500 4 102000 5 102500 6 103000 7 109000;"
        + "over 0 7 6;over 1 5 4;over 2 3 2;over 3 1 0;over 4 7 0;over 5 6 2;fall 3 2 with 0;jury 2 8;grace 0;gap 20;close;";
    private static final String OTHER = "team;team;" + "rider 1 40;rider 0 20;".repeat(4) + "stage trial 60 at 20 climb 4;"
        + "come 7 50000 6 50005 5 52005 4 52000 2 52002 1 98000 0 99000;"
        + "over 0 4;fall 6 2 with 5;jury 7 100;jury 6 50;grace 5;zone 0;close;rider 1 19;rider 0 18;";
    private static final String ONE_OPEN = "stage hills 80 at 1 climb 2 at 2 sprint at 40 climb 1 at 41 sprint;"
        + "come 0 90000;over 0 1;over 3 0 2 1;over 2 5 6;fall 4 1 with 0;jury 1 30;grace 5;";
    private static final String OTHER_OPEN = "stage flat 8 at 3 sprint at 4 sprint at 5 climb 1 at 6 climb 2;come 4 9000 6 9001;"
        + "over 0 6 4;over 3 4 6 5;over 2 4;fall 6 3 with 4;fall 4 3;jury 4 2;grace 6;";
    private static final String END = "come 1 90100 2 90200 4 90300 5 99999;close;";

    /** Whatever stood in the object before, going back makes it as one to which only the kept part was told. */
    private static void nothingOfTheOther() {
        String one = Answers.asked(of(ONE, ONE_OPEN, END));
        String other = Answers.asked(of(OTHER, OTHER_OPEN, "close;"));
        BunchTimes x = new BunchTimes();
        x.keep(0);
        tell(x, ONE, ONE_OPEN, END);
        x.back(0);
        tell(x, OTHER, OTHER_OPEN, "close;");
        DUE.sameText("the other behind the one", other, Answers.asked(x));
        x = new BunchTimes();
        x.keep(0);
        tell(x, ONE, ONE_OPEN);
        x.keep(1);
        x.back(0);
        tell(x, OTHER, OTHER_OPEN, "close;");
        x.back(1);
        DUE.none("behind the last mark", x.mark(41, 0));
        tell(x, END);
        DUE.sameText("the one behind the other", one, Answers.asked(x));
        x = of(OTHER);
        Due.text(x, "stage hills 30 at 2 sprint;come 4 8000 6 9000 5 9900;grace 4;jury 5 9;close;oops");
        tell(x, OTHER_OPEN, "close;");
        DUE.sameText("behind a text that failed", other, Answers.asked(x));
        DUE.sameText("they differ", "1", one.equals(other) ? "0" : "1");
    }

    private static BunchTimes of(String... texts) {
        BunchTimes x = new BunchTimes();
        tell(x, texts);
        return x;
    }

    private static void tell(BunchTimes x, String... texts) {
        for (String text : texts) {
            DUE.yes("told: " + text, Due.text(x, text) < 0);
        }
    }
}
