/** Promises 21 to 27: what comes of a stage that is closed. */
final class StageTest {
    private static final Due DUE = new Due();

    public static void main(String[] args) {
        bunches();
        times();
        chains();
        kindsWithoutMishaps();
        limits();
        pardon();
        prizes();
        lateKeepPlaces();
        orderAndResults();
        gaps();
        escapes();
        ofRiders();
        DUE.close();
    }

    private static void bunches() {
        // A bunch goes on while each gap is short, however far its last is from its first.
        BunchTimes x = Races.closed(0, 100, 100009, 100018, 100027, 100037, 100046);
        DUE.same("bunches", 2, x.told(0, 3));
        DUE.same("raw, rest dropped", 10000, x.result(0, 2, 1));
        DUE.same("raw of the next", 10003, x.result(0, 4, 1));
        DUE.same("bunch", 0, x.result(0, 2, 3));
        DUE.same("bunch", 1, x.result(0, 4, 3));
        x = Races.closed(3, 100, 100000, 100000, 100001);
        DUE.same("each in a trial", 3, x.told(0, 3));
        DUE.same("bunch in a trial", 2, x.result(0, 2, 3));
    }

    private static void times() {
        BunchTimes x = Races.with(4);
        x.stage(1, 100);
        Races.come(x, 100000, 100100, 100200, 100300);
        x.fall(1, 3, 0);
        x.fall(2, 4, 0);
        x.fall(0, 0, 3);
        DUE.same("nobody goes out", 0, x.close());
        DUE.same("in the zone", 10000, x.result(0, 1, 2));
        DUE.same("outside", 10020, x.result(0, 2, 2));
        DUE.same("never worse", 10000, x.result(0, 0, 2));
        DUE.same("helped", 1, x.told(0, 9));
        DUE.same("by so much", 10, x.told(0, 10));
        DUE.same("the place stays", 2, x.result(0, 1, 4));
        DUE.same("raw stays", 10010, x.result(0, 1, 1));
        DUE.same("best", 10000, x.told(0, 4));
    }

    private static void chains() {
        BunchTimes x = Races.with(6);
        x.rule(1, 0);
        x.stage(0, 100);
        Races.come(x, 100300, 100200, 100100);
        x.fall(0, 0, 1);
        x.fall(1, 0, 2);
        x.fall(2, 0, 0);
        x.finish(4, 100600);
        x.finish(5, 100000);
        x.fall(4, 0, 3);
        x.fall(3, 0, 5);
        x.fall(5, 1, 4);
        DUE.same("rider 3 did not come in", 1, x.close());
        DUE.same("a ring: the least of all", 10010, x.result(0, 0, 2));
        DUE.same("a ring", 10010, x.result(0, 1, 2));
        DUE.same("a ring", 10010, x.result(0, 2, 2));
        DUE.same("not on by one without a finish", 10060, x.result(0, 4, 2));
        DUE.same("helped", 2, x.told(0, 9));
        DUE.same("by so much", 20 + 10, x.told(0, 10));
        DUE.none("no finish", x.result(0, 3, 2));

        x = Races.with(4);
        x.stage(0, 100);
        Races.come(x, 100300, 100200, 100000);
        x.fall(0, 3, 1);
        x.fall(1, 4, 2);
        x.close();
        DUE.same("it ends where a mishap does not count", 10020, x.result(0, 0, 2));

        x = Races.with(4);
        x.stage(0, 100);
        x.fall(0, 0, 1);
        x.fall(1, 0, 2);
        x.fall(2, 0, 3);
        x.finish(0, 100300);
        x.finish(1, 100200);
        x.finish(3, 100000);
        x.close();
        DUE.same("it keeps what it had ahead of one without a finish", 10020, x.result(0, 0, 2));
        DUE.same("next to one without a finish", 10020, x.result(0, 1, 2));

        x = Races.with(3);
        x.stage(0, 100);
        Races.come(x, 100300, 100200, 100000);
        x.fall(0, 0, 1);
        x.fall(1, 0, 2);
        x.quit(1);
        x.close();
        DUE.same("not on by one that quit", 10030, x.result(0, 0, 2));

        x = Races.with(2);
        x.stage(0, 100);
        Races.come(x, 100300, 100000);
        x.fall(0, 3, -1);
        x.fall(1, 3, 0);
        x.close();
        DUE.same("with nobody", 10030, x.result(0, 0, 2));
        DUE.same("never worse", 10000, x.result(0, 1, 2));
    }

    private static void kindsWithoutMishaps() {
        for (int kind = 0; kind < 4; kind++) {
            BunchTimes x = Races.with(2);
            x.stage(kind, 100);
            Races.come(x, 100000, 100100);
            x.fall(1, 1, 0);
            x.close();
            DUE.same("kind " + kind, kind <= 1 ? 10000 : 10010, x.result(0, 1, 2));
        }
    }

    private static void limits() {
        int[] per = {7, 10, 15, 30};
        for (int kind = 0; kind < 4; kind++) {
            // 100 km in 10000 s: 36 km an hour.
            BunchTimes x = Races.closed(kind, 100, 100000);
            DUE.same("speed", 36, x.told(0, 5));
            DUE.same("limit of kind " + kind, 10000 + 100 * per[kind], x.told(0, 6));
            DUE.same("kind", kind, x.told(0, 0));
            DUE.same("length", 100, x.told(0, 1));
            DUE.same("finishes", 1, x.told(0, 2));
        }
        // 39 km in 3600 s; 40 in 3600; 57, 58 and 60.
        int[][] speeds = {{38, 7}, {39, 7}, {40, 8}, {57, 16}, {58, 17}, {60, 17}, {300, 17}};
        for (int[] s : speeds) {
            BunchTimes x = Races.closed(0, s[0], 36009);
            DUE.same("speed", s[0], x.told(0, 5));
            DUE.same("limit at " + s[0], 3600 + 36 * s[1], x.told(0, 6));
        }
        BunchTimes x = Races.closed(0, 300, 9);
        DUE.same("best 0", 0, x.told(0, 4));
        DUE.same("speed by 1", 1080000, x.told(0, 5));
        DUE.same("limit 0", 0, x.told(0, 6));
        x = Races.closed(0, 1, 999);
        DUE.same("rest dropped: 36", 36, x.told(0, 5));
        DUE.same("rest dropped: 99 and 6.93", 105, x.told(0, 6));
        for (int what : new int[] {-1, 11}) {
            DUE.none("told " + what, x.told(0, what));
        }
        DUE.none("told of no stage", x.told(1, 0));
        DUE.none("told of stage -1", x.told(-1, 0));
        x.stage(0, 50);
        DUE.none("told of an open one", x.told(1, 0));
    }

    private static void pardon() {
        // The limit of a flat stage of 10000 s at 36 km an hour is 10700 s.
        BunchTimes x = Races.with(6);
        x.stage(0, 100);
        Races.come(x, 100000, 100000, 100000, 100000, 107009, 107010);
        DUE.same("late is above the limit alone", 0, x.close());
        DUE.same("none: both are of one bunch", 0, x.told(0, 7));

        x = Races.with(5);
        x.stage(0, 100);
        Races.come(x, 100000, 100000, 100000, 107000, 107010);
        DUE.same("five times one are not more than five", 1, x.close());
        DUE.same("late", 1, x.told(0, 7));
        DUE.same("in at the limit", 1, x.of(3, 2));
        DUE.same("out above it", 0, x.of(4, 2));

        x = Races.with(4);
        x.stage(0, 100);
        Races.come(x, 100000, 100000, 100000, 107010);
        DUE.same("five times one are more than four", 0, x.close());
        DUE.same("pardoned", 1, x.told(0, 8));
        DUE.same("in", 1, x.of(3, 2));
        DUE.same("no points", 0, x.result(0, 3, 6));

        x = Races.with(5);
        x.stage(0, 100);
        Races.come(x, 100000, 100000, 100000, 107010, 108000);
        x.grace(4);
        DUE.same("by grace one is not late", 1, x.close());
        DUE.same("a late rider 0", 1, Races.closed(0, 100, 108000, 100000, 100000, 100000, 100000).told(0, 7));
        DUE.same("late", 1, x.told(0, 7));
        DUE.same("in by grace", 1, x.of(4, 2));
        DUE.same("with points", 10, x.result(0, 4, 6));
        DUE.same("the other has none", 0, x.result(0, 3, 6));

        x = Races.with(5);
        x.stage(0, 100);
        Races.come(x, 100000, 100000, 100000, 100000, 108000);
        x.fall(4, 3, 0);
        DUE.same("by his time, not raw", 0, x.close());
        DUE.same("late", 0, x.told(0, 7));
    }

    private static void prizes() {
        int[][] points = {{25, 20, 16, 13, 10, 0}, {15, 12, 9, 7, 5, 0}, {10, 8, 6, 4, 2, 0}, {10, 8, 6, 4, 2, 0}};
        int[] bonus = {10, 6, 4, 0, 0, 0};
        for (int kind = 0; kind < 4; kind++) {
            BunchTimes x = Races.closed(kind, 100, 100000, 100001, 100002, 100003, 100004, 100005);
            for (int r = 0; r < 6; r++) {
                DUE.same("points of " + r + " in kind " + kind, points[kind][r], x.result(0, r, 6));
                DUE.same("bonus of " + r + " in kind " + kind, kind == 3 ? 0 : bonus[r], x.result(0, r, 5));
            }
        }
        int[][] over = {{10, 7, 4, 2, 0}, {10, 8, 6, 4, 0}, {5, 3, 2, 1, 0}, {2, 1, 0, 0, 0}, {1, 0, 0, 0, 0}};
        int[] sprint = {3, 2, 1, 0, 0};
        for (int how = 0; how <= 4; how++) {
            BunchTimes x = Races.with(12);
            x.stage(3, 100);
            x.mark(50, how);
            // Rider 11 is over it first, but does not come in; 6 to 10 are behind the first five of the order.
            x.over(0, 11);
            for (int r = 0; r < 11; r++) {
                x.finish(r, 100000 + r);
            }
            for (int r = 6; r < 11; r++) {
                x.over(0, r);
            }
            x.close();
            for (int i = 0; i < 5; i++) {
                DUE.same("points " + i + " over " + how, how == 0 ? over[0][i] : 0, x.result(0, 6 + i, 6));
                DUE.same("dots " + i + " over " + how, how == 0 ? 0 : over[how][i], x.result(0, 6 + i, 7));
                DUE.same("bonus " + i + " over " + how, how == 0 ? sprint[i] : 0, x.result(0, 6 + i, 5));
            }
        }
    }

    private static void lateKeepPlaces() {
        BunchTimes x = Races.with(5);
        x.stage(0, 100);
        x.mark(20, 0);
        x.mark(40, 1);
        Races.come(x, 100000, 100000, 100000, 100000, 108000);
        for (int m = 0; m < 2; m++) {
            x.over(m, 4);
            x.over(m, 3);
        }
        DUE.same("out", 1, x.close());
        DUE.same("no points", 0, x.result(0, 4, 6));
        DUE.same("no dots", 0, x.result(0, 4, 7));
        DUE.same("bonus he has", 3, x.result(0, 4, 5));
        DUE.same("the second stays the second: 13 and 7", 20, x.result(0, 3, 6));
        DUE.same("the second's dots", 8, x.result(0, 3, 7));
        DUE.same("the second's bonus", 2, x.result(0, 3, 5));
        DUE.same("in all", 3, x.of(4, 5));
    }

    private static void orderAndResults() {
        BunchTimes x = Races.with(4);
        x.stage(0, 100);
        x.finish(3, 100000);
        x.finish(1, 100000);
        x.finish(0, 100020);
        DUE.none("open", x.order(0, 0));
        DUE.none("open", x.result(0, 0, 0));
        x.close();
        int[] order = {1, 3, 0};
        for (int i = 0; i < 3; i++) {
            DUE.same("order " + i, order[i], x.order(0, i));
            DUE.same("place", i + 1, x.result(0, order[i], 4));
        }
        DUE.none("order 3", x.order(0, 3));
        DUE.none("order -1", x.order(0, -1));
        DUE.none("order of stage 1", x.order(1, 0));
        DUE.none("order of stage -1", x.order(-1, 0));
        int[] want = {100020, 10002, 10002, 1, 3, 4, 16, 0};
        for (int what = 0; what < 8; what++) {
            DUE.same("result " + what, want[what], x.result(0, 0, what));
        }
        DUE.none("result 8", x.result(0, 0, 8));
        DUE.none("result -1", x.result(0, 0, -1));
        DUE.none("no finish", x.result(0, 2, 0));
        DUE.none("rider 4", x.result(0, 4, 0));
        DUE.none("rider -1", x.result(0, -1, 0));
        DUE.none("stage 1", x.result(1, 0, 0));
    }

    private static void gaps() {
        BunchTimes x = Races.closed(0, 100, 100000, 100001, 100099, 100000);
        int[][] parted = {{1, 3}, {2, 2}, {98, 2}, {99, 1}};
        for (int[] p : parted) {
            DUE.same("parted " + p[0], p[1], x.parted(0, p[0]));
        }
        DUE.none("gap 0", x.parted(0, 0));
        DUE.none("gap 100", x.parted(0, 100));
        DUE.none("stage 1", x.parted(1, 10));
        DUE.none("stage -1", x.parted(-1, 10));
        DUE.same("together", 99, x.together(0));
        DUE.none("stage 1", x.together(1));
        DUE.none("by 100 it would be", Races.closed(0, 100, 100000, 100099).together(0));
        DUE.same("all alike", 1, Races.closed(1, 100, 100000, 100000).together(0));
        DUE.same("one alone", 1, Races.closed(0, 100, 100000).together(0));
        DUE.same("one alone in a trial", 1, Races.closed(3, 100, 100000).together(0));
        DUE.none("a trial of two", Races.closed(3, 100, 100000, 100000).together(0));
        DUE.same("a trial parted", 2, Races.closed(3, 100, 100000, 100000).parted(0, 99));
    }

    private static void escapes() {
        DUE.same("the widest", 1, Races.closed(0, 100, 100000, 100500, 100501).escaped(0));
        DUE.same("the widest is the last", 2, Races.closed(0, 100, 100000, 100500, 101001).escaped(0));
        DUE.same("the first of like ones", 1, Races.closed(0, 100, 100000, 100500, 101000).escaped(0));
        DUE.same("all alike", 1, Races.closed(0, 100, 100000, 100000, 100000).escaped(0));
        DUE.same("in a trial", 2, Races.closed(3, 100, 100000, 100001, 100003).escaped(0));
        DUE.none("one alone", Races.closed(0, 100, 100000).escaped(0));
        DUE.none("stage 1", Races.closed(0, 100, 100000, 100001).escaped(1));
        DUE.none("stage -1", Races.closed(0, 100, 100000, 100001).escaped(-1));
    }

    private static void ofRiders() {
        BunchTimes x = new BunchTimes();
        x.team();
        x.team();
        x.rider(1, 33);
        x.rider(0, 22);
        for (int s = 0; s < 2; s++) {
            x.stage(0, 100);
            x.mark(50, 0);
            x.mark(60, 2);
            x.over(0, 0);
            x.over(1, 0);
            x.jury(0, 9);
            Races.come(x, 100000, 100500);
            DUE.same("before it is closed", s * 35, x.of(0, 3));
            DUE.same("before it is closed", s * 9, x.of(0, 6));
            x.close();
        }
        int[] want = {1, 33, 1, 70, 10, 26, 18};
        for (int what = 0; what < want.length; what++) {
            DUE.same("of(0, " + what + ")", want[what], x.of(0, what));
        }
        x.stage(0, 100);
        x.quit(0);
        DUE.same("out", 0, x.of(0, 2));
        DUE.same("his points stay", 70, x.of(0, 3));
        DUE.noSuchElement("of(0, 7)", x, 0, 7);
        DUE.noSuchElement("of(0, -1)", x, 0, -1);
        DUE.noSuchElement("of(2, 0)", x, 2, 0);
        DUE.noSuchElement("of(-1, 0)", x, -1, 0);
        DUE.noSuchElement("of nobody", new BunchTimes(), 0, 0);
    }
}
