/** Races to begin a test with. */
final class Races {
    private Races() {
    }

    /** A team and so many riders of it, aged 30. */
    static BunchTimes with(int riders) {
        BunchTimes x = new BunchTimes();
        x.team();
        for (int r = 0; r < riders; r++) {
            x.rider(0, 30);
        }
        return x;
    }

    /** A closed stage of which each finish is told, rider 0's first. */
    static BunchTimes closed(int kind, int length, int... tenths) {
        BunchTimes x = with(tenths.length);
        x.stage(kind, length);
        come(x, tenths);
        x.close();
        return x;
    }

    static void come(BunchTimes x, int... tenths) {
        for (int r = 0; r < tenths.length; r++) {
            x.finish(r, tenths[r]);
        }
    }

    /** What a text tells that has no fault. */
    static BunchTimes told(String text) {
        BunchTimes x = new BunchTimes();
        more(x, text);
        return x;
    }

    static void more(BunchTimes x, String text) {
        int answer = Due.text(x, text);
        if (answer > 0) {
            throw new AssertionError("fault " + answer + " in " + text);
        }
    }

    /** Two teams, four riders, a closed hills stage of 50 km: rider 3 is out by it; none is open. */
    static BunchTimes between() {
        return told("team;team;rider 0 20;rider 0 30;rider 1 40;rider 1 50;stage hills 50 at 5 sprint at 9 climb 1;"
            + "over 0 1 2;over 1 2;jury 1 4;come 0 40000 1 40100 2 40200;close;");
    }

    /** As between(), that is kept in slot 0; then a flat stage of 100 km is open, without a finish. */
    static BunchTimes open() {
        BunchTimes x = between();
        x.keep(0);
        more(x, "stage flat 100 at 10 sprint at 20 climb 2;over 0 0;over 1 1;fall 0 2 with 1;jury 0 7;grace 0;");
        return x;
    }

    /** As open(), and rider 0 has a finish. */
    static BunchTimes finishing() {
        BunchTimes x = open();
        x.finish(0, 90000);
        return x;
    }
}
