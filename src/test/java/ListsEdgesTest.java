/** Promises 28 to 32 at their edges, sentence by sentence, and the terms on which they rest: totals, lists, jerseys. */
final class ListsEdgesTest {
    private static final Due DUE = new Due();
    private static final int FAR = Integer.MAX_VALUE;
    private static final int FAR_BELOW = Integer.MIN_VALUE;
    private static final int NO_TOTAL = -1000000;

    public static void main(String[] args) {
        DUE.sentence("TOTAL: TIMES and the JURY's seconds less BONUS", ListsEdgesTest::totals);
        DUE.sentence("TOTAL: (who was told behind a STAGE: it counts LIMIT for him)", ListsEdgesTest::toldBehind);
        DUE.sentence("PLACES: (from 1 on; 99 without) together", ListsEdgesTest::placesTogether);
        DUE.sentence("LISTS of RIDERS that are IN", ListsEdgesTest::thoseIn);
        DUE.sentence("0 GENERAL: by TOTAL, then PLACES, then number", ListsEdgesTest::general);
        DUE.sentence("1 POINTS (most first): those with 1 or more, of like ones as in GENERAL", ListsEdgesTest::points);
        DUE.sentence("2 DOTS likewise", ListsEdgesTest::dots);
        DUE.sentence("3 YOUNG: AGE 25 or less, as in GENERAL", ListsEdgesTest::young);
        DUE.sentence("4 is of TEAMS with three RIDERS IN or more", ListsEdgesTest::threeIn);
        DUE.sentence("4: the three least TIMES of its RIDERS in each CLOSED STAGE", ListsEdgesTest::threeLeast);
        DUE.sentence("4: (of those with a FINISH, OUT or not; fewer than three: three times LIMIT for that STAGE)",
            ListsEdgesTest::fewerThanThree);
        DUE.sentence("4: of like ones by number", ListsEdgesTest::likeTeams);
        DUE.sentence("There are no LISTS ahead of the first CLOSED STAGE.", ListsEdgesTest::noLists);
        DUE.sentence("28: NONE: there is none such.", ListsEdgesTest::noSuchEntry);
        DUE.sentence("29: TOTAL of a RIDER (0 ahead of the first CLOSED STAGE)", ListsEdgesTest::totalAhead);
        DUE.sentence("29: -1000000: there is none such (RIDERS).", ListsEdgesTest::noSuchRider);
        DUE.sentence("29: -1000000: there is none such (TEAMS).", ListsEdgesTest::noSuchTeam);
        DUE.sentence("30: led: who LEADS it", ListsEdgesTest::leaders);
        DUE.sentence("30: Who WEARS a JERSEY: the first of its LIST who wears none yet", ListsEdgesTest::wearers);
        DUE.sentence("30: NONE: nobody", ListsEdgesTest::nobodyWears);
        DUE.sentence("30: NONE: there is none such", ListsEdgesTest::noSuchJersey);
        DUE.sentence("31: How many seconds less TOTAL a RIDER needs at least", ListsEdgesTest::needs);
        DUE.sentence("31: NONE: he is not IN", ListsEdgesTest::needsOfOneOut);
        DUE.sentence("31: NONE: there is none such", ListsEdgesTest::needsOfNobody);
        DUE.sentence("31: NONE: no STAGE is CLOSED", ListsEdgesTest::needsAhead);
        DUE.sentence("32: Who would be the first, if TIMES of a STAGE did not count", ListsEdgesTest::withoutTimes);
        DUE.sentence("32: BONUS", ListsEdgesTest::withoutBonus);
        DUE.sentence("32: the JURY's seconds", ListsEdgesTest::withoutJury);
        DUE.sentence("32: places", ListsEdgesTest::withoutPlaces);
        DUE.sentence("32: NONE: there is none such.", ListsEdgesTest::withoutNone);
        DUE.close();
    }

    private static void list(String what, BunchTimes x, int list, int... want) {
        for (int i = 0; i < want.length; i++) {
            DUE.same(what + ": list(" + list + ", " + i + ")", want[i], x.list(list, i));
        }
        DUE.none(what + ": behind list " + list, x.list(list, want.length));
    }

    /** Riders of one team, each of whose times of trials is told in seconds, a row a stage. */
    private static BunchTimes trials(int[]... seconds) {
        BunchTimes x = Races.with(seconds[0].length);
        for (int[] row : seconds) {
            x.stage(3, 100);
            for (int r = 0; r < row.length; r++) {
                x.finish(r, 10 * row[r]);
            }
            x.close();
        }
        return x;
    }

    private static int[] row(int... seconds) {
        return seconds;
    }

    // ---- totals, places

    private static void totals() {
        DUE.same("the least there can be: 0 less 10 less 18", -28, leastTotal(1));
        DUE.same("of eight stages", -28 * 8, leastTotal(8));
        BunchTimes x = Races.with(1);
        x.stage(3, 1);
        x.finish(0, 999999);
        for (int n = 0; n < 27; n++) {
            x.jury(0, 3600);
        }
        x.jury(0, 2799);
        x.close();
        DUE.same("the most of a stage", 99999 + 99999, x.total(0, false));
        DUE.same("one second of the jury's", 10000 - 10 + 1, juried().total(0, false));
    }

    private static int leastTotal(int stages) {
        BunchTimes x = Races.with(1);
        for (int s = 0; s < stages; s++) {
            x.stage(0, 100);
            for (int m = 0; m < 6; m++) {
                x.mark(m + 1, 0);
                x.over(m, 0);
            }
            x.finish(0, 1);
            x.close();
        }
        return x.total(0, false);
    }

    private static BunchTimes juried() {
        BunchTimes x = Races.with(1);
        x.stage(0, 100);
        x.jury(0, 1);
        x.finish(0, 100000);
        x.close();
        return x;
    }

    private static void toldBehind() {
        BunchTimes x = trials(row(10000), row(20000));
        x.rider(0, 30);
        DUE.same("behind two: 13000 and 26000", 39000, x.total(1, false));
        x.stage(3, 100);
        x.rider(0, 30);
        DUE.same("while the third is open, not that", 39000, x.total(2, false));
        x.finish(0, 100000);
        x.finish(1, 105000);
        x.finish(2, 106000);
        x.close();
        DUE.same("his own time in the third", 49500, x.total(1, false));
        DUE.same("his own time in the third", 49600, x.total(2, false));
        x.rider(0, 30);
        DUE.same("behind three", 39000 + 13000, x.total(3, false));
        DUE.same("ahead of all", 0, Races.with(1).total(0, false));
    }

    /** Rider 14 and rider 15, who was told behind the first stage, have like totals; their places differ by one, or not. */
    private static BunchTimes likeTotals(int placeOfFourteen) {
        BunchTimes x = Races.with(15);
        x.stage(3, 100);
        for (int r = 0; r < 15; r++) {
            x.finish(r, r == 14 ? 130000 : 100000);
        }
        x.close();
        x.rider(0, 30);
        for (int s = 1; s <= 6; s++) {
            x.stage(3, 100);
            for (int r = 0; r < 16; r++) {
                x.finish(r, 100001 + (r == 15 ? -1 : r == 14 ? s == 1 ? 0 : 8 : s == 1 && r >= placeOfFourteen - 2 ? 1 : 0));
            }
            x.close();
        }
        return x;
    }

    private static void placesTogether() {
        // Rider 14: 15 and 5 times 16 and his place; rider 15: 99 and 6 times 1, which are 105.
        int[][] cases = {{9, 14}, {10, 14}, {11, 15}};
        for (int[] c : cases) {
            BunchTimes x = likeTotals(c[0]);
            DUE.same("like totals", x.total(14, false), x.total(15, false));
            DUE.same("his place", c[0], x.result(1, 14, 4));
            DUE.same("95 and " + c[0] + " against 105", c[1], x.list(0, 14));
        }
        // From 1 on: 1 and 2 against 2 and 1 are like, so the number counts.
        list("1 and 2, 2 and 1", trials(row(10000, 10001), row(10001, 10000)), 0, 0, 1);
    }

    // ---- lists

    private static void thoseIn() {
        BunchTimes x = Races.told("team;rider 0 20;rider 0 20;rider 0 20;rider 0 20;stage flat 100 at 10 climb 1;over 0 0 1 2 3;"
            + "come 0 100000 1 100100 2 100200;close;");
        for (int l = 0; l < 4; l++) {
            list("one without a finish", x, l, 0, 1, 2);
        }
        Races.more(x, "stage flat 100;quit 0;");
        for (int l = 0; l < 4; l++) {
            list("one quits", x, l, 1, 2);
        }
        Races.more(x, "quit 1;");
        for (int l = 0; l < 4; l++) {
            list("one is left", x, l, 2);
        }
        Races.more(x, "quit 2;");
        for (int l = 0; l <= 4; l++) {
            list("nobody", x, l);
        }
        Races.more(x, "rider 0 20;");
        list("one told behind it", x, 0, 4);
        list("he has no points", x, 1);
    }

    private static void general() {
        list("a second apart", trials(row(10001, 10000)), 0, 1, 0);
        BunchTimes x = Races.closed(3, 100, 100001, 100000);
        list("like totals, by places", x, 0, 1, 0);
        list("like totals and places, by number", trials(row(10001, 10000), row(10000, 10001)), 0, 0, 1);
        x = Races.with(16);
        x.stage(3, 100);
        for (int r = 0; r < 16; r++) {
            x.finish(r, 100000 + 10 * (15 - r));
        }
        x.close();
        list("sixteen", x, 0, 15, 14, 13, 12, 11, 10, 9, 8, 7, 6, 5, 4, 3, 2, 1, 0);
        list("one", trials(row(10000)), 0, 0);
        DUE.same("age 50 is in it", 3, oldAndYoung().list(0, 0));
        // Places do not count ahead of totals.
        x = Races.told("team;rider 0 30;rider 0 30;stage trial 100;jury 0 11;come 0 100000 1 100100;close;");
        list("a worse place, a second less", x, 0, 1, 0);
    }

    private static void points() {
        // A trial of six: 10 8 6 4 2, and none.
        list("the sixth has none", trials(row(10000, 10001, 10002, 10003, 10004, 10005)), 1, 0, 1, 2, 3, 4);
        BunchTimes x = Races.told("team;rider 0 30;rider 0 30;rider 0 30;stage trial 100 at 10 sprint;over 0 2 1;come 0 100000 1 100010 2 100020;close;");
        // 10; 8 and 7; 6 and 10.
        list("most first", x, 1, 2, 1, 0);
        x = trials(row(10000, 10030), row(10010, 10000));
        DUE.same("like points", x.of(0, 3), x.of(1, 3));
        list("of like ones as in general", x, 1, 0, 1);
        x = trials(row(10000, 10010), row(10030, 10000));
        DUE.same("like points", x.of(0, 3), x.of(1, 3));
        list("of like ones as in general", x, 1, 1, 0);
        x = trials(row(10000, 10010), row(10010, 10000));
        list("of like ones as in general, by number", x, 1, 0, 1);
        list("age 50 is in it", oldAndYoung(), 1, 3, 2, 1, 0);
        // Of the order 40 32 24 16 8 for the last five numbers; of the sprints 10 7 4 2 for each four.
        list("sixteen", sixteenWorthy(), 1, 15, 14, 13, 12, 11, 7, 3, 10, 6, 2, 9, 5, 1, 8, 4, 0);
    }

    /** Ages 16, 25, 26, 50, who come one behind the other, the oldest first; so they come over a climb. */
    private static BunchTimes oldAndYoung() {
        return Races.told("team;rider 0 16;rider 0 25;rider 0 26;rider 0 50;stage trial 100 at 10 climb 1;"
            + "come 3 100000 2 100010 1 100020 0 100030;over 0 3 2 1 0;close;");
    }

    /** Sixteen young ones, the last number first in each stage; four a stage come over a sprint and a climb. */
    private static BunchTimes sixteenWorthy() {
        BunchTimes x = new BunchTimes();
        x.team();
        for (int r = 0; r < 16; r++) {
            x.rider(0, 25);
        }
        for (int s = 0; s < 4; s++) {
            x.stage(3, 100);
            x.mark(10, 0);
            x.mark(20, 1);
            Races.more(x, "over 0 " + fourOf(s) + ";over 1 " + fourOf(s) + ";");
            for (int r = 0; r < 16; r++) {
                x.finish(r, 100000 + 100 * (15 - r));
            }
            x.close();
        }
        return x;
    }

    private static String fourOf(int group) {
        return (4 * group + 3) + " " + (4 * group + 2) + " " + (4 * group + 1) + " " + 4 * group;
    }

    private static void dots() {
        BunchTimes x = Races.told("team;rider 0 30;rider 0 30;rider 0 30;stage trial 100 at 10 climb 4 at 20 climb 3;"
            + "come 0 100020 1 100010 2 100000;over 0 0 2;over 1 1;close;");
        list("2 and 1, and none", x, 2, 1, 0);
        x = Races.told("team;rider 0 30;rider 0 30;stage trial 100 at 10 climb 4 at 20 climb 4;come 0 100020 1 100010;over 0 0;over 1 1;close;");
        list("of like ones as in general", x, 2, 1, 0);
        list("nobody has any", trials(row(10000, 10001)), 2);
        x = Races.told("team;rider 0 30;stage trial 100 at 10 climb 4;come 0 100000;over 0 0;close;");
        list("one of one", x, 2, 0);
        list("age 50 is in it", oldAndYoung(), 2, 3, 2, 1, 0);
        list("sixteen", sixteenWorthy(), 2, 15, 11, 7, 3, 14, 10, 6, 2, 13, 9, 5, 1, 12, 8, 4, 0);
    }

    private static void young() {
        BunchTimes x = Races.told("team;rider 0 26;rider 0 25;rider 0 50;rider 0 16;stage trial 100;"
            + "come 0 100000 1 100020 2 100000 3 100010;close;");
        list("25 and 16, not 26", x, 3, 3, 1);
        list("nobody", trials(row(10000)), 3);
        x = Races.told("team;rider 0 25;rider 0 25;stage trial 100;come 0 100001 1 100000;close;");
        list("as in general", x, 3, 1, 0);
        list("16 and 25", oldAndYoung(), 3, 1, 0);
        list("sixteen", sixteenWorthy(), 3, 15, 14, 13, 12, 11, 10, 9, 8, 7, 6, 5, 4, 3, 2, 1, 0);
    }

    // ---- teams

    private static BunchTimes teams(String riders, String come) {
        return Races.told("team;team;team;" + riders + "stage trial 100;" + come + "close;");
    }

    private static void threeIn() {
        BunchTimes x = teams("rider 0 30;rider 0 30;rider 0 30;rider 1 30;rider 1 30;rider 1 30;rider 1 30;rider 2 30;rider 2 30;",
            "come 0 100000 1 100000 2 100000 3 100000 4 100000 5 100000 6 100000 7 100000 8 100000;");
        list("three, four, two", x, 4, 0, 1);
        Races.more(x, "stage trial 100;quit 6;");
        list("three of four", x, 4, 0, 1);
        DUE.same("it has a total", 30000, x.total(1, true));
        Races.more(x, "quit 5;quit 0;");
        list("two of four, two of three", x, 4);
        DUE.same("it has none", NO_TOTAL, x.total(1, true));
        Races.more(x, "rider 2 30;");
        list("the third told behind the stage", x, 4, 2);
    }

    private static void threeLeast() {
        BunchTimes x = teams("rider 0 30;rider 0 30;rider 0 30;rider 0 30;rider 0 30;",
            "come 0 100500 1 100100 2 100400 3 100200 4 100300;jury 1 50;");
        DUE.same("10010 and 10020 and 10030", 30060, x.total(0, true));
        Races.more(x, "stage trial 100;come 0 100000 1 100500 2 100000 3 100500 4 100001;close;");
        DUE.same("others in the next", 30060 + 30000, x.total(0, true));
        x = Races.with(16);
        x.stage(3, 100);
        for (int r = 0; r < 16; r++) {
            x.finish(r, 100000 + 10 * (15 - r));
        }
        x.close();
        DUE.same("of sixteen", 30003, x.total(0, true));
        x = Races.closed(0, 100, 100000, 100010, 100020);
        DUE.same("bonus does not count", 30003, x.total(0, true));
        x = trials(row(10000, 10000, 10000), row(10001, 10001, 10001), row(10002, 10002, 10002), row(10003, 10003, 10003),
            row(10004, 10004, 10004), row(10005, 10005, 10005), row(10006, 10006, 10006), row(10007, 10007, 10007));
        DUE.same("of eight stages", 3 * (80000 + 28), x.total(0, true));
        x = Races.told("team;rider 0 30;rider 0 30;rider 0 30;stage trial 100;come 0 100000 1 100000 2 100000;close;");
        x.keep(0);
        Races.more(x, "stage trial 100;come 0 100000 1 100000 2 100000;close;");
        x.back(0);
        Races.more(x, "stage trial 100;come 0 100000 1 100000 2 100000;");
        DUE.same("not of an open one", 30000, x.total(0, true));
    }

    private static void fewerThanThree() {
        // The limit of a trial of 10000 seconds is 13000.
        BunchTimes x = teams("rider 0 30;rider 0 30;rider 1 30;rider 1 30;rider 1 30;",
            "come 0 100000 1 100000 2 100100 3 100100;");
        Races.more(x, "rider 0 30;rider 1 30;");
        DUE.same("two with a finish", 39000, x.total(0, true));
        DUE.same("two with a finish, one without", 39000, x.total(1, true));
        Races.more(x, "rider 2 30;rider 2 30;rider 2 30;");
        DUE.same("nobody with a finish", 39000, x.total(2, true));
        // One that is LATE, and OUT by it.
        x = Races.told("team;rider 0 30;rider 0 30;rider 0 30;rider 0 30;rider 0 30;stage flat 100;"
            + "come 0 100000 1 100000 2 108000 3 100000 4 100000;close;stage flat 100;quit 3;quit 4;rider 0 30;");
        DUE.same("three with a finish, who are out by now", 30000, x.total(0, true));
        x = Races.told("team;team;rider 0 30;rider 0 30;rider 0 30;rider 1 30;rider 1 30;stage flat 100;"
            + "come 0 100000 1 100000 2 108000 3 100000 4 100000;close;rider 0 30;");
        DUE.same("out", 0, x.of(2, 2));
        DUE.same("his time counts", 30800, x.total(0, true));
        x = Races.told("team;team;rider 0 30;rider 0 30;rider 0 30;rider 1 30;stage flat 100;quit 2;"
            + "come 0 100000 1 100000 3 100000;close;rider 0 30;");
        DUE.same("who quit has no finish", 3 * 10700, x.total(0, true));
    }

    private static void likeTeams() {
        BunchTimes x = teams("rider 2 30;rider 2 30;rider 2 30;rider 1 30;rider 1 30;rider 1 30;rider 0 30;rider 0 30;rider 0 30;",
            "come 0 100000 1 100000 2 100000 3 100000 4 100000 5 100000 6 100000 7 100000 8 100000;");
        list("alike", x, 4, 0, 1, 2);
        x = teams("rider 2 30;rider 2 30;rider 2 30;rider 1 30;rider 1 30;rider 1 30;rider 0 30;rider 0 30;rider 0 30;",
            "come 0 100000 1 100000 2 100000 3 100000 4 100000 5 100000 6 100000 7 100000 8 100010;");
        list("a second more", x, 4, 1, 2, 0);
        // Rider 0 has more places than rider 1, but teams have none.
        x = teams("rider 0 30;rider 0 30;rider 0 30;rider 1 30;rider 1 30;rider 1 30;", "come 0 100005 1 100000 2 100001 3 100002 4 100003 5 100004;");
        list("general", x, 0, 1, 2, 3, 4, 5, 0);
        list("alike, asked behind general", x, 4, 0, 1);
    }

    // ---- 28, 29

    private static void noLists() {
        BunchTimes x = Races.told("team;rider 0 20;rider 0 20;rider 0 20;");
        for (int open = 0; open < 2; open++) {
            for (int l = 0; l <= 4; l++) {
                list("none is closed", x, l);
            }
            for (int j = 0; j < 4; j++) {
                DUE.none("led", x.jersey(j, true));
                DUE.none("worn", x.jersey(j, false));
            }
            DUE.same("of the team", NO_TOTAL, x.total(0, true));
            Due.text(x, "stage flat 100 at 10 climb 1;over 0 0;come 0 100000 1 100000 2 100000;");
        }
        Races.more(x, "close;");
        for (int l = 0; l <= 4; l++) {
            DUE.same("one is closed", 0, x.list(l, 0));
        }
    }

    private static void noSuchEntry() {
        BunchTimes x = Races.told("team;rider 0 20;rider 0 20;rider 0 20;stage flat 100 at 10 climb 1;over 0 0 1 2;"
            + "come 0 100000 1 100000 2 100000;close;");
        for (int l = 0; l <= 4; l++) {
            for (int i : new int[] {FAR_BELOW, -1, l == 4 ? 1 : 3, 16, FAR}) {
                DUE.none("list(" + l + ", " + i + ")", x.list(l, i));
            }
        }
        for (int l : new int[] {FAR_BELOW, -1, 5, FAR}) {
            x.list(0, 0);
            DUE.none("list(" + l + ", 0)", x.list(l, 0));
        }
    }

    private static void totalAhead() {
        BunchTimes x = Races.with(2);
        DUE.same("no stage", 0, x.total(0, false));
        x.stage(0, 100);
        Races.come(x, 100000, 100000);
        x.jury(1, 5);
        DUE.same("it is open", 0, x.total(1, false));
        x.quit(0);
        DUE.same("out", NO_TOTAL, x.total(0, false));
        x.close();
        DUE.same("it is closed", 10000 + 5 - 10, x.total(1, false));
    }

    private static void noSuchRider() {
        for (int rider : new int[] {FAR_BELOW, -1, 4, 16, FAR}) {
            DUE.same("total(" + rider + ", false)", NO_TOTAL, Races.between().total(rider, false));
        }
        DUE.same("who is out", NO_TOTAL, Races.between().total(3, false));
        DUE.same("nobody", NO_TOTAL, new BunchTimes().total(0, false));
        DUE.same("the last that is in", 4020 - 4 - 2, Races.between().total(2, false));
    }

    private static void noSuchTeam() {
        BunchTimes x = Races.told("team;team;rider 0 30;rider 0 30;rider 0 30;rider 1 30;rider 1 30;"
            + "stage trial 100;come 0 100000 1 100000 2 100000 3 100000 4 100000;close;");
        for (int team : new int[] {FAR_BELOW, -1, 2, 6, FAR}) {
            DUE.same("total(" + team + ", true)", NO_TOTAL, x.total(team, true));
        }
        DUE.same("two in", NO_TOTAL, x.total(1, true));
        DUE.same("three in", 30000, x.total(0, true));
        DUE.same("no teams", NO_TOTAL, new BunchTimes().total(0, true));
        x = Races.told("team;team;team;team;team;team;rider 5 30;rider 5 30;rider 5 30;stage trial 100;come 0 100000 1 100000 2 100000;close;");
        DUE.same("the sixth", 30000, x.total(5, true));
        DUE.same("there is no seventh", NO_TOTAL, x.total(6, true));
        x = Races.told("team;rider 0 30;rider 0 30;rider 0 30;stage trial 100;come 0 100000 1 100000 2 100000;");
        DUE.same("ahead of the first closed one", NO_TOTAL, x.total(0, true));
    }

    // ---- 30

    /** Rider 0 is the first of all four lists; 1, 2, 3 stand behind him each in another order. */
    private static BunchTimes jerseys() {
        return Races.told("team;rider 0 20;rider 0 30;rider 0 22;rider 0 30;stage flat 100 at 50 climb 1;"
            + "come 0 100000 1 100020 2 100040 3 100060;over 0 0 3;close;");
    }

    private static void leaders() {
        for (int j = 0; j < 4; j++) {
            DUE.same("jersey " + j, 0, jerseys().jersey(j, true));
            DUE.same("the first of its list", jerseys().list(j, 0), jerseys().jersey(j, true));
        }
        DUE.none("nobody has dots", trials(row(10000)).jersey(2, true));
        DUE.none("nobody is young", trials(row(10000)).jersey(3, true));
    }

    private static void wearers() {
        int[] worn = {0, 1, 3, 2};
        BunchTimes x = jerseys();
        for (int j = 3; j >= 0; j--) {
            DUE.same("jersey " + j, worn[j], x.jersey(j, false));
        }
        // Each leads one: each wears that.
        x = Races.told("team;rider 0 30;rider 0 30;rider 0 30;rider 0 20;stage trial 100 at 10 sprint at 20 climb 1;"
            + "come 0 100000 1 100100 2 100200 3 100300;over 0 1;over 1 2;close;");
        for (int j = 0; j < 4; j++) {
            DUE.same("jersey " + j, j, x.jersey(j, false));
        }
        // Who wears the third is by that out of the fourth alone.
        x = Races.told("team;rider 0 30;rider 0 20;stage trial 100 at 20 climb 1;come 0 100000 1 100100;over 0 1;close;");
        DUE.same("general", 0, x.jersey(0, false));
        DUE.same("points: the second of the list", 1, x.jersey(1, false));
        DUE.none("dots: he wears another", x.jersey(2, false));
        DUE.none("young: he wears another", x.jersey(3, false));
    }

    private static void nobodyWears() {
        BunchTimes x = trials(row(10000));
        DUE.same("general", 0, x.jersey(0, false));
        for (int j = 1; j < 4; j++) {
            DUE.none("one alone wears but one: " + j, x.jersey(j, false));
        }
        // Nobody in one list: the next is worn all the same.
        x = Races.told("team;rider 0 30;rider 0 30;rider 0 20;stage trial 100;come 0 100000 1 100100 2 100200;close;");
        DUE.none("nobody has dots", x.jersey(2, false));
        DUE.same("young", 2, x.jersey(3, false));
    }

    private static void noSuchJersey() {
        BunchTimes x = jerseys();
        for (int j : new int[] {FAR_BELOW, -1, 4, 5, FAR}) {
            DUE.none("worn " + j, x.jersey(j, false));
            DUE.none("led " + j, x.jersey(j, true));
        }
        x = Races.closed(0, 100, 100000, 100000, 100000);
        DUE.same("list 4 has a first", 0, x.list(4, 0));
        DUE.none("it has no jersey", x.jersey(4, true));
    }

    // ---- 31

    private static void needs() {
        DUE.same("one alone", 0, trials(row(10000)).needs(0));
        BunchTimes x = trials(row(10000, 10005));
        DUE.same("the first", 0, x.needs(0));
        DUE.same("more places: a second more", 6, x.needs(1));
        x = trials(row(10000, 10001, 10002), row(10007, 10001, 10000));
        DUE.same("totals", 20007, x.total(0, false));
        DUE.same("the first", 0, x.needs(1));
        // Rider 0 has 1 and 3, rider 1 has 2 and 2, rider 2 has 3 and 1: the number decides.
        DUE.same("like places, a lesser number", 5, x.needs(0));
        DUE.same("like totals and places, a greater number", 1, x.needs(2));
        x = trials(row(10000, 10001, 10001), row(10000, 10001, 10002), row(10009, 10000, 10000));
        DUE.same("totals", 30009, x.total(0, false));
        DUE.same("totals", 30002, x.total(1, false));
        // 1 and 1 and 3 against 2 and 2 and 1.
        DUE.same("like places, a lesser number", 7, x.needs(0));
        x = trials(row(10000, 10001), row(10000, 10001), row(10009, 10000));
        DUE.same("fewer places: as much is enough", 7, x.needs(0));
        x = Races.closed(3, 100, 100001, 100000);
        DUE.same("like totals, more places", 1, x.needs(0));
        DUE.same("like totals, fewer places", 0, x.needs(1));
        x = Races.told("team;rider 0 30;stage flat 1;come 0 9;close;rider 0 30;");
        DUE.same("below 0: 0 against -10", 11, x.needs(1));
        DUE.same("age 50", 0, oldAndYoung().needs(3));
        DUE.same("behind one of age 50", 4, oldAndYoung().needs(0));
    }

    private static void needsOfOneOut() {
        DUE.none("without a finish", Races.between().needs(3));
        BunchTimes x = Races.open();
        x.quit(0);
        DUE.none("by quitting", x.needs(0));
        DUE.same("the next is the first", 0, x.needs(1));
    }

    private static void needsOfNobody() {
        for (int rider : new int[] {FAR_BELOW, -1, 4, 16, FAR}) {
            DUE.none("needs(" + rider + ")", Races.between().needs(rider));
        }
        DUE.none("nobody", new BunchTimes().needs(0));
    }

    private static void needsAhead() {
        BunchTimes x = Races.with(2);
        DUE.none("no stage", x.needs(0));
        x.stage(0, 100);
        Races.come(x, 100000, 100100);
        DUE.none("it is open", x.needs(0));
        x.close();
        DUE.same("it is closed", 0, x.needs(0));
        DUE.same("10 and 4 and 1", 15, x.needs(1));
    }

    // ---- 32

    private static void withoutTimes() {
        BunchTimes x = trials(row(10000, 10020), row(10010, 10000));
        DUE.same("the first", 0, x.list(0, 0));
        DUE.same("without the first", 1, x.without(0));
        DUE.same("without the second", 0, x.without(1));
        DUE.same("all stays", 0, x.list(0, 0));
        x = Races.told("team;rider 0 20;rider 0 50;stage trial 100;come 0 100000 1 100010;close;stage trial 100;come 0 100010 1 100000;close;");
        DUE.same("age 50", 1, x.without(0));
        DUE.same("without the only one: the number", 0, trials(row(10020, 10000)).without(0));
        x = Races.told("team;rider 0 30;stage trial 100;come 0 100000;close;rider 0 30;stage trial 100;come 0 100010 1 100000;close;");
        DUE.same("the limit of one told behind it neither", 1, x.without(0));
        DUE.same("it does in the other", 0, x.without(1));
        x = Races.told("team;rider 0 30;rider 0 30;stage trial 100;come 0 100000 1 100010;close;stage trial 100;quit 0;");
        DUE.same("of those in", 1, x.without(0));
        Races.more(x, "quit 1;");
        DUE.none("nobody is in", x.without(0));
        x = Races.told("team;rider 0 30;rider 0 30;rider 0 30;rider 0 30;rider 0 30;stage flat 100;"
            + "come 0 100000 1 100000 2 100000 3 100000 4 108000;close;stage flat 100;come 0 100100 1 100000 2 100000 3 100000;close;");
        DUE.same("who is out by it is out all the same", 1, x.without(0));
    }

    private static void withoutBonus() {
        // Rider 1 is ahead by the bonus of the second alone.
        BunchTimes x = Races.told("team;rider 0 30;rider 0 30;stage trial 100;come 0 100000 1 100020;close;"
            + "stage flat 100 at 10 sprint;come 0 100000 1 100000;over 0 1;close;");
        DUE.same("totals", 19990, x.total(0, false));
        DUE.same("totals", 20002 - 6 - 3, x.total(1, false));
        DUE.same("without the second", 0, x.without(1));
        DUE.same("without the first", 0, x.without(0));
        x = Races.told("team;rider 0 30;rider 0 30;stage trial 100 at 10 sprint;come 0 100000 1 100010;over 0 1;close;"
            + "stage trial 100;come 0 100000 1 100010;close;");
        DUE.same("the first: 20000 against 20002 less 3", 1, x.list(0, 0));
        DUE.same("without the first", 0, x.without(0));
        DUE.same("without the second", 1, x.without(1));
    }

    private static void withoutJury() {
        BunchTimes x = Races.told("team;rider 0 30;rider 0 30;stage trial 100;jury 0 30;come 0 100000 1 100010;close;"
            + "stage trial 100;come 0 100000 1 100010;close;");
        DUE.same("the first", 1, x.list(0, 0));
        DUE.same("without the first", 0, x.without(0));
        DUE.same("without the second", 1, x.without(1));
    }

    private static void withoutPlaces() {
        // Like times in both; places 2 and 1 in the first, like ones together but for the number in the second.
        BunchTimes x = Races.told("team;rider 0 30;rider 0 30;rider 0 30;stage trial 100;come 0 100002 1 100001 2 100000;close;"
            + "stage trial 100;come 0 100000 1 100001 2 100002;close;");
        DUE.same("the first: like places, the number", 0, x.list(0, 0));
        DUE.same("without the first", 0, x.without(0));
        DUE.same("without the second", 2, x.without(1));
    }

    private static void withoutNone() {
        BunchTimes x = Races.finishing();
        for (int stage : new int[] {FAR_BELOW, -1, 2, 8, FAR}) {
            DUE.none("without(" + stage + ")", x.without(stage));
        }
        DUE.none("the open one", x.without(1));
        DUE.same("the closed one", 0, x.without(0));
        DUE.none("no stages", Races.with(1).without(0));
    }
}
