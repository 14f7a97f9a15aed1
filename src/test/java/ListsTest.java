/** Promises 28 to 32: lists, totals, jerseys, what one needs, what would be without a stage. */
final class ListsTest {
    private static final Due DUE = new Due();

    public static void main(String[] args) {
        general();
        likeOnes();
        latecomers();
        ninetyNine();
        pointsAndDots();
        young();
        teams();
        jerseys();
        needs();
        without();
        nobodyIn();
        DUE.close();
    }

    private static void list(BunchTimes x, int list, int... want) {
        for (int i = 0; i < want.length; i++) {
            DUE.same("list(" + list + ", " + i + ")", want[i], x.list(list, i));
        }
        DUE.none("behind list " + list, x.list(list, want.length));
        DUE.none("list(" + list + ", -1)", x.list(list, -1));
    }

    private static void general() {
        BunchTimes x = Races.told("team;rider 0 30;rider 0 30;rider 0 30;rider 0 30;stage flat 100;come 0 100000 1 100020 2 100040 3 100060;"
            + "jury 0 30;");
        for (int l = 0; l < 5; l++) {
            list(x, l);
        }
        DUE.same("ahead of the first closed one", 0, x.total(0, false));
        DUE.same("no team ahead of it", -1000000, x.total(0, true));
        Races.more(x, "close;");
        // 10000 + 30 - 10, 10002 - 6, 10004 - 4, 10006
        int[] totals = {10020, 9996, 10000, 10006};
        for (int r = 0; r < 4; r++) {
            DUE.same("total of " + r, totals[r], x.total(r, false));
        }
        list(x, 0, 1, 2, 3, 0);
        DUE.none("list 5", x.list(5, 0));
        DUE.none("list -1", x.list(-1, 0));
        Races.more(x, "stage trial 10;");
        list(x, 0, 1, 2, 3, 0);
        Races.more(x, "quit 1;");
        list(x, 0, 2, 3, 0);
        DUE.same("out", -1000000, x.total(1, false));
        DUE.same("none such", -1000000, x.total(4, false));
        DUE.same("none such", -1000000, x.total(-1, false));
        Races.more(x, "come 0 9000 2 9100 3 9390;close;");
        DUE.same("of both", 10020 + 900, x.total(0, false));
        DUE.same("of both", 10000 + 910, x.total(2, false));
        DUE.same("of both", 10006 + 939, x.total(3, false));
        BunchTimes y = Races.told("team;rider 0 30;stage flat 1;come 0 9;close;");
        DUE.same("below 0", -10, y.total(0, false));
    }

    private static void likeOnes() {
        // Two trials: of like totals the places together count, then the number.
        BunchTimes x = Races.told("team;rider 0 30;rider 0 30;rider 0 30;"
            + "stage trial 10;come 0 10020 1 10000 2 10010;close;stage trial 10;come 0 10000 1 10020 2 10019;close;");
        // 1002 + 1000 with 3 + 1; 1000 + 1002 with 1 + 3; 1001 + 1001 with 2 + 2
        list(x, 0, 0, 1, 2);
        x = Races.told("team;rider 0 30;rider 0 30;stage trial 10;come 0 10001 1 10000;close;");
        list(x, 0, 1, 0);
    }

    private static void latecomers() {
        BunchTimes x = Races.told("team;rider 0 30;rider 0 30;stage flat 100;come 0 100000 1 100200;close;rider 0 20;");
        DUE.same("limit for him", 10700, x.total(2, false));
        list(x, 0, 0, 1, 2);
        Races.more(x, "stage trial 100;rider 0 21;come 0 100000 1 100010 2 100000 3 100000;close;");
        DUE.same("in the second", 10700 + 10000, x.total(2, false));
        DUE.same("told while it was open", 10700 + 10000, x.total(3, false));
        // Both have a place more by 99; the places of the second stage tell them apart.
        list(x, 0, 0, 1, 2, 3);
        DUE.same("place", 2, x.result(1, 2, 4));
        DUE.none("no result in the first", x.result(0, 2, 0));
        // A latecomer's 99 against a place: totals alike, 10700 each.
        x = Races.told("team;rider 0 30;rider 0 30;rider 0 30;rider 0 30;stage flat 100;come 0 100000 1 100000 2 100000 3 107000;close;"
            + "rider 0 30;");
        DUE.same("total", 10700, x.total(3, false));
        DUE.same("total", 10700, x.total(4, false));
        list(x, 0, 0, 1, 2, 3, 4);
    }

    /** One told behind the first stage, against one whose places come to like, or one more. */
    private static void ninetyNine() {
        for (int place = 10; place <= 11; place++) {
            BunchTimes x = Races.with(15);
            x.stage(3, 100);
            for (int r = 0; r < 14; r++) {
                x.finish(r, 100000);
            }
            x.finish(14, 130000);
            x.close();
            x.rider(0, 30);
            for (int s = 1; s <= 6; s++) {
                // Rider 15 comes first; rider 14 last, but for one stage.
                x.stage(3, 100);
                x.finish(15, 100000);
                for (int r = 0; r < 14; r++) {
                    x.finish(r, s == 1 && r >= place - 2 ? 100002 : 100001);
                }
                x.finish(14, s == 1 ? 100001 : 100009);
                x.close();
            }
            DUE.same("place", place, x.result(1, 14, 4));
            DUE.same("totals are alike", x.total(14, false), x.total(15, false));
            // 15 + 5 * 16 + place against 99 + 6 * 1
            DUE.same("places of 14: " + (95 + place), place == 10 ? 14 : 15, x.list(0, 14));
        }
    }

    private static void pointsAndDots() {
        BunchTimes x = Races.told("team;rider 0 30;rider 0 30;rider 0 30;rider 0 30;stage trial 100 at 10 sprint at 20 climb 3 at 30 climb 4;"
            + "come 0 100000 1 100010 2 100020 3 100030;over 0 3 2;over 1 3 2;over 2 2;close;");
        // Points: 10, 8, 6 + 7, 4 + 10. Dots: -, -, 1 + 1, 2. Totals: 10000, 10001, 10002 - 2, 10003 - 3.
        list(x, 1, 3, 2, 0, 1);
        DUE.same("totals", 10000, x.total(2, false));
        DUE.same("totals", 10000, x.total(3, false));
        list(x, 0, 0, 2, 3, 1);
        list(x, 2, 2, 3);
        Races.more(x, "stage trial 100;quit 3;");
        list(x, 1, 2, 0, 1);
        list(x, 2, 2);
    }

    private static void young() {
        BunchTimes x = Races.told("team;rider 0 26;rider 0 25;rider 0 16;stage flat 100;come 0 100000 1 100020 2 100010;close;");
        list(x, 3, 2, 1);
    }

    private static void teams() {
        BunchTimes x = Races.told("team;team;team;rider 0 30;rider 0 30;rider 0 30;rider 0 30;rider 1 30;rider 1 30;rider 1 30;rider 2 30;rider 2 30;"
            + "stage flat 100;come 0 100400 1 100300 2 100200 3 100100 4 100000 5 100000 6 101000 7 100000 8 100000;jury 3 500;close;");
        // Team 0: 10010 + 10020 + 10030; team 1: 10000 + 10000 + 10100; the jury's seconds don't count, nor bonus.
        DUE.same("team 0", 30060, x.total(0, true));
        DUE.same("team 1", 30100, x.total(1, true));
        DUE.same("team 2 has two", -1000000, x.total(2, true));
        DUE.same("team 3 there is none", -1000000, x.total(3, true));
        DUE.same("team -1", -1000000, x.total(-1, true));
        list(x, 4, 0, 1);
        Races.more(x, "rider 2 30;");
        DUE.same("three in, but two came: three times the limit", 32100, x.total(2, true));
        list(x, 4, 0, 1, 2);
        Races.more(x, "stage flat 100;quit 3;quit 0;quit 4;rider 1 30;come 1 100000 2 100000 5 100000 6 100000 7 99500 8 99500 9 99500 10 100000;close;");
        // Of the first stage rider 4's time counts still; team 0 has but two in.
        DUE.same("team 0", -1000000, x.total(0, true));
        DUE.same("team 1", 30100 + 30000, x.total(1, true));
        DUE.same("team 2", 32100 + 29850, x.total(2, true));
        list(x, 4, 1, 2);
        BunchTimes y = Races.told("team;team;rider 1 30;rider 1 30;rider 1 30;rider 0 30;rider 0 30;rider 0 30;"
            + "stage flat 100;come 0 100000 1 100000 2 100000 3 100000 4 100000 5 100000;close;");
        list(y, 4, 0, 1);
        // Riders 0, 1, 2 are ahead in general, so that what is ranked there must not count for teams.
        list(y, 0, 0, 1, 2, 3, 4, 5);
        list(y, 4, 0, 1);
        BunchTimes w = Races.told("team;team;rider 0 30;rider 0 30;rider 0 30;rider 1 30;rider 1 30;rider 1 30;"
            + "stage flat 100;come 0 100100 1 100100 2 100100 3 100000 4 100000 5 100000;close;");
        list(w, 4, 1, 0);
        // Of like ones by number, though in general rider 1 is ahead of rider 0.
        BunchTimes v = Races.told("team;team;rider 0 30;rider 1 30;rider 0 30;rider 1 30;rider 0 30;rider 1 30;"
            + "stage trial 100;come 0 100009 1 100000 2 100000 3 100000 4 100000 5 100000;close;");
        list(v, 0, 1, 2, 3, 4, 5, 0);
        list(v, 4, 0, 1);
        // Late and out, but the time counts for the team.
        BunchTimes z = Races.told("team;team;rider 0 30;rider 0 30;rider 1 30;rider 1 30;rider 0 30;stage flat 100;"
            + "come 0 100000 1 100000 2 100000 3 100000 4 108000;close;rider 0 30;");
        DUE.same("out", 0, z.of(4, 2));
        DUE.same("out or not", 30800, z.total(0, true));
    }

    private static void jerseys() {
        BunchTimes x = Races.told("team;rider 0 20;rider 0 30;rider 0 22;rider 0 30;stage flat 100 at 50 climb 1;"
            + "come 0 100000 1 100020 2 100040 3 100060;over 0 0 3;close;");
        // Rider 0 leads all four.
        int[] worn = {0, 1, 3, 2};
        for (int j = 0; j < 4; j++) {
            DUE.same("led " + j, 0, x.jersey(j, true));
            DUE.same("worn " + j, worn[j], x.jersey(j, false));
        }
        for (int j : new int[] {-1, 4}) {
            DUE.none("jersey " + j, x.jersey(j, false));
            DUE.none("jersey " + j, x.jersey(j, true));
        }
        x = Races.told("team;rider 0 20;rider 0 30;stage trial 100 at 50 climb 4;come 0 100000 1 100020;over 0 0;close;");
        DUE.same("general", 0, x.jersey(0, false));
        DUE.same("points", 1, x.jersey(1, false));
        DUE.none("dots: the only one wears another", x.jersey(2, false));
        DUE.same("but he leads it", 0, x.jersey(2, true));
        DUE.none("young: likewise", x.jersey(3, false));
        x = Races.told("team;rider 0 30;stage flat 100;come 0 100000;");
        DUE.none("ahead of the first closed one", x.jersey(0, true));
        DUE.none("ahead of the first closed one", x.jersey(0, false));
        Races.more(x, "close;");
        DUE.none("nobody has dots", x.jersey(2, true));
        DUE.none("nobody is young", x.jersey(3, true));
    }

    private static void needs() {
        BunchTimes x = Races.told("team;rider 0 30;rider 0 30;rider 0 30;stage trial 100;come 0 100100 1 100000 2 100200;");
        DUE.none("no stage is closed", x.needs(0));
        Races.more(x, "close;");
        DUE.same("the first", 0, x.needs(1));
        DUE.same("a worse place", 11, x.needs(0));
        DUE.same("a worse place", 21, x.needs(2));
        DUE.none("rider 3", x.needs(3));
        DUE.none("rider -1", x.needs(-1));
        Races.more(x, "stage trial 100;come 0 100000 1 100100 2 100005;close;");
        // 20010 with 2 + 1, 20010 with 1 + 3, 20020 with 3 + 2
        DUE.same("first by places", 0, x.needs(0));
        DUE.same("like total, worse places", 1, x.needs(1));
        DUE.same("worse places", 11, x.needs(2));
        Races.more(x, "stage trial 100;quit 0;");
        DUE.none("out", x.needs(0));
        DUE.same("first by now", 0, x.needs(1));
        // Like places: the lesser number needs a second less.
        x = Races.told("team;rider 0 30;rider 0 30;stage trial 100;come 0 100000 1 100100;close;stage trial 100;come 0 100300 1 100000;close;");
        DUE.same("first", 0, x.needs(1));
        DUE.same("like places, lesser number", 20, x.needs(0));
        x = Races.told("team;rider 0 30;rider 0 30;stage trial 100;come 0 100000 1 100300;close;stage trial 100;come 0 100100 1 100000;close;");
        DUE.same("like places, higher number", 21, x.needs(1));
    }

    private static void without() {
        BunchTimes x = Races.told("team;rider 0 30;rider 0 30;rider 0 30;stage trial 100;come 0 100100 1 100000 2 100200;jury 2 5;close;"
            + "stage flat 100;come 0 100000 1 100500 2 100000;");
        DUE.none("the open one", x.without(1));
        DUE.same("without the only one: the number", 0, x.without(0));
        Races.more(x, "jury 0 100;close;");
        DUE.same("first", 2, x.list(0, 0));
        DUE.same("without the first", 2, x.without(0));
        DUE.same("without the second", 1, x.without(1));
        DUE.none("stage 2", x.without(2));
        DUE.none("stage -1", x.without(-1));
        Races.more(x, "rider 0 30;");
        DUE.same("without the second", 1, x.without(1));
        // Places of the stage don't count either: totals are alike without it, places too.
        x = Races.told("team;rider 0 30;rider 0 30;stage trial 100;come 0 100009 1 100000;close;");
        DUE.same("first by places", 1, x.list(0, 0));
        DUE.same("without it by number", 0, x.without(0));
        // One told behind the stage: its limit does not count.
        x = Races.told("team;rider 0 30;stage trial 100;come 0 100000;close;rider 0 30;stage trial 100;come 0 100100 1 100000;close;");
        DUE.same("without the first", 1, x.without(0));
        DUE.same("without the second", 0, x.without(1));
    }

    private static void nobodyIn() {
        BunchTimes x = Races.told("team;rider 0 20;stage flat 100;come 0 100000;close;stage flat 100;quit 0;");
        for (int l = 0; l < 5; l++) {
            list(x, l);
        }
        DUE.none("without", x.without(0));
        DUE.none("jersey", x.jersey(0, false));
        DUE.none("jersey", x.jersey(0, true));
    }
}
