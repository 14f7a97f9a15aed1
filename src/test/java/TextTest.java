import java.nio.charset.StandardCharsets;

/** Promises 2 to 5: the tape, and what is told as a text. */
final class TextTest {
    private static final Due DUE = new Due();

    public static void main(String[] args) {
        tape();
        told();
        asTheCallsDo();
        tokens();
        cannotStand();
        bounds();
        boundsByTheStage();
        cannotBeDone();
        firstAlongTheText();
        allStays();
        DUE.close();
    }

    private static void tape() {
        BunchTimes x = new BunchTimes();
        DUE.no("end(-1)", x.end(-1));
        DUE.no("end(1)", x.end(1));
        DUE.yes("end(0)", x.end(0));
        for (int n = 1; n <= 30; n++) {
            DUE.same("feed", 20 * n, x.feed(n, n, n, n, n));
        }
        DUE.none("more than 600", x.feed(0, 0, 0, 0, 0));
        DUE.same("none come", 600, x.count(9));
        DUE.yes("end(600)", x.end(600));
        DUE.no("end(601)", x.end(601));
        DUE.yes("end(581)", x.end(581));
        DUE.none("more than 600", x.feed(0, 0, 0, 0, 0));
        DUE.no("it has not so many", x.end(582));
        DUE.yes("end(580)", x.end(580));
        DUE.same("600", 600, x.feed(0, 0, 0, 0, 0));
        // "team" "; te" "am; " "team" ";   ": of each number the highest byte first.
        x.end(0);
        DUE.same("feed", 20, x.feed(0x7465616d, 0x3b207465, 0x616d3b20, 0x7465616d, 0x3b202020));
        DUE.same("tell", 3, x.tell());
        DUE.same("teams", 3, x.count(0));
        DUE.same("the tape is empty", 0, x.count(9));
        DUE.same("an empty text", 0, x.tell());
        DUE.same("no fault", 0, x.fault());
        DUE.same("600 bytes", -120, Due.text(x, "gap7;".repeat(120)));
        DUE.same("600 bytes, without the last ;", 1 + 8 * 600, Due.text(x, "gap7;".repeat(119) + "gap10"));
    }

    private static void told() {
        BunchTimes x = new BunchTimes();
        DUE.same("teams and riders", -5, Due.text(x, "team;team;rider 0 20;rider 1 30;rider 0 25;"));
        DUE.same("of(1, 0)", 1, x.of(1, 0));
        DUE.same("of(1, 1)", 30, x.of(1, 1));
        DUE.same("a stage", -1, Due.text(x, "stage hills 120 at 10 sprint at 50 climb 1 at 119 climb 4;"));
        DUE.same("marks", 3, x.count(5));
        DUE.same("the rest", -9, Due.text(x, "come 0 144000 1 144500;come 2 145000;over 0 2 1 0;over 1 0;"
            + "fall 1 3 with 0;fall 2 4;jury 0 12;gap 99;close;"));
        DUE.same("kind", 1, x.told(0, 0));
        DUE.same("length", 120, x.told(0, 1));
        DUE.same("bunches", 3, x.told(0, 3));
        DUE.same("time by a mishap", 14400, x.result(0, 1, 2));
        DUE.same("none outside the zone", 14500, x.result(0, 2, 2));
        DUE.same("jury", 12, x.of(0, 6));
        DUE.same("dots", 10, x.of(0, 4));
        DUE.same("bonus: 10 and 1", 11, x.of(0, 5));
        DUE.same("gap", 99, x.count(7));
        DUE.same("more", -6, Due.text(x, "stage flat 9;zone 0;grace 2;quit 1;come 0 9000 2 9900;close;"));
        DUE.same("zone", 0, x.count(8));
        DUE.same("quit", 0, x.of(1, 2));
        DUE.same("grace", 0, x.told(1, 7));
        DUE.same("peaks", -3, Due.text(x, "stage peaks 9;come 0 9000 2 9000;close;"));
        DUE.same("trial", -3, Due.text(x, "stage trial 9;come 0 9000 2 9000;close;"));
        DUE.same("kind", 2, x.told(2, 0));
        DUE.same("kind", 3, x.told(3, 0));
    }

    private static void asTheCallsDo() {
        BunchTimes x = new BunchTimes();
        DUE.same("each sees what the ones ahead did", -6,
            Due.text(x, "team;rider 0 20;stage flat 50 at 5 sprint;over 0 0;come 0 40000;close;"));
        DUE.same("closed", 1, x.count(4));
        DUE.same("bonus", 13, x.of(0, 5));
        DUE.same("gap and zone as they are", -2, Due.text(x, "gap 10;zone 3;"));
        DUE.same("come and over of nobody, though none is open", -2, Due.text(x, "come;over 0;"));
    }

    private static void tokens() {
        BunchTimes x = new BunchTimes();
        DUE.same("blanks or not", -3, Due.text(x, "\n team ;rider0 20;\nrider\n0\n000050 ; \n"));
        DUE.same("a word behind an int", -1, Due.text(x, "stage flat100at10sprint at 20climb4;"));
        DUE.same("marks", 2, x.count(5));
        DUE.same("words as long as they stand", 1, Due.text(x, "teamteam;"));
        DUE.same("another first letter", 1, Due.text(x, "seam;"));
        DUE.same("another last letter", 1, Due.text(x, "teas;"));
        DUE.same("a part of a word", 1, Due.text(x, "tea;"));
        DUE.same("a letter of the others", 1, Due.text(x, "Team;"));
        DUE.same("a letter of the others behind", 1 + 8 * 4, Due.text(x, "teamS;"));
        DUE.same("a tab", 1 + 8 * 4, Due.text(x, "team\t;"));
        DUE.same("a byte above 127", 1 + 8 * 2, Due.text(x, "  " + (char) 233));
        DUE.same("a byte 0", 1, Due.text(x, "" + (char) 0));
        DUE.same("seven digits", 1 + 8 * 4, Due.text(x, "gap 0000010;"));
        DUE.same("six digits", -1, Due.text(x, "gap 000010;"));
        DUE.same("blanks alone", 0, Due.text(x, " \n \n"));
        DUE.same("a minus", 1 + 8 * 5, Due.text(x, "jury -1 5;"));
    }

    private static void cannotStand() {
        BunchTimes x = ready();
        String[] texts = {"|5;", "|;", "team|", "team |5;", "team |team;", "rider |;", "rider |team;", "rider 0|;",
            "rider 0 20 |20;", "stage |100;", "stage |flatt 100;", "stage flat |;", "stage flat 100 |sprint;",
            "stage flat 100 at |;", "stage flat 100 at 5 |5;", "stage flat 100 at 5 |;", "stage flat 100 at 5 climb |;",
            "stage flat 100 at 5 sprint |1;", "come 0|;", "come 0 5 1|;", "come |0000000;", "over|;", "over |team;", "fall 0|;",
            "fall 0 1 |2;", "fall 0 1 with|;", "fall 0 1 |width 2;", "jury 0|;", "jury 0 5 |5;", "grace|;", "quit|;",
            "gap|;", "gap 5 |5;", "zone|;", "close |1;", "team;|teams;", "|at 5;", "|with 5;", "|flat 5;"};
        for (String text : texts) {
            int place = text.indexOf('|');
            DUE.same(text, 1 + 8 * place, Due.text(x, text.replace("|", "")));
        }
        DUE.same("the end's place is the text's length", 1 + 8 * 7, Due.text(x, "team   "));
    }

    /** Two teams, four riders, a stage of 100 km with two marks that is open. */
    private static BunchTimes ready() {
        BunchTimes x = new BunchTimes();
        Due.text(x, "team;team;rider 0 20;rider 0 30;rider 1 40;rider 1 50;stage flat 100 at 10 sprint at 20 climb 2;");
        return x;
    }

    private static void bounds() {
        BunchTimes x = ready();
        String[] texts = {"rider |2 20;", "rider 0 |15;", "rider 0 |51;", "stage flat |0;", "stage flat |301;",
            "stage flat 100 at |0 sprint;", "stage flat 100 at |100 sprint;", "stage flat 100 at 5 sprint at |5 sprint;",
            "stage flat 100 at 5 sprint at |4 sprint;", "stage flat 1 at |1 sprint;", "stage flat 100 at 5 climb |0;",
            "stage flat 100 at 5 climb |5;", "come |4 100;", "come 0 |0;", "come 0 5 |4 5;", "over |2 0;", "over 0 |4;",
            "over 0 1 |9;", "fall |4 1;", "fall 0 |101;", "fall 0 1 with |4;", "jury |4 5;", "jury 0 |0;", "jury 0 |3601;",
            "grace |4;", "quit |4;", "gap |0;", "gap |100;", "zone |10;"};
        for (String text : texts) {
            int place = text.indexOf('|');
            DUE.same(text, 2 + 8 * place, Due.text(x, text.replace("|", "")));
        }
        DUE.same("edges that are within", -6, Due.text(x, "come 0 999999 1 1;over 1 3;fall 0 100;fall 1 0 with 0;jury 0 3600;jury 0 1;"));
        DUE.same("edges that are within", -4, Due.text(x, "gap 1;gap 99;zone 0;zone 9;"));
    }

    private static void boundsByTheStage() {
        BunchTimes x = new BunchTimes();
        DUE.same("no teams", 2 + 8 * 6, Due.text(x, "rider 0 20;"));
        DUE.same("no riders", 2 + 8 * 5, Due.text(x, "come 0 5;"));
        Due.text(x, "team;rider 0 20;rider 0 20;");
        DUE.same("without a stage there are no marks", 2 + 8 * 5, Due.text(x, "over 0;"));
        DUE.same("without a stage km 0 alone", 2 + 8 * 7, Due.text(x, "fall 0 1;"));
        DUE.same("km 0 can't be done", 3, Due.text(x, "fall 0 0;"));
        DUE.same("the latest stage, closed", -3, Due.text(x, "stage flat 30 at 5 sprint;come 0 10000 1 10000;close;"));
        DUE.same("its marks", 3, Due.text(x, "over 0 1;"));
        DUE.same("no more marks", 2 + 8 * 5, Due.text(x, "over 1 1;"));
        DUE.same("its length", 3, Due.text(x, "fall 0 30;"));
        DUE.same("beyond its length", 2 + 8 * 7, Due.text(x, "fall 0 31;"));
    }

    private static void cannotBeDone() {
        BunchTimes x = ready();
        String[] texts = {"team;team;team;team;|team;", "|stage hills 50;", "come 0 500;|rider 0 20;", "come 0 5;|come 0 6;",
            "|come 0 5 0 5;", "|over 0 1 1;", "|fall 0 1 with 0;", "fall 0 1;|fall 0 1;", "grace 0;|grace 0;", "quit 0;|quit 0;",
            "quit 0;|come 0 5;", "quit 0;|over 0 0;", "quit 0;|fall 1 1 with 0;", "quit 0;|jury 0 5;", "quit 0;|grace 0;", "|close;",
            "come 0 5;close;|close;", "come 0 5;close;|come 0 5;", "come 0 5;close;|grace 0;", "come 0 5;close;|quit 0;",
            "come 0 5;close;|jury 0 5;", "come 0 5;close;|stage flat 50 at 1 sprint at 2 sprint at 3 sprint at 4 sprint at 5 sprint"
            + " at 6 sprint at 7 sprint;"};
        for (String text : texts) {
            int place = text.indexOf('|');
            DUE.same(text, 3 + 8 * place, Due.text(x, text.replace("|", "")));
        }
        for (int n = 0; n < 27; n++) {
            x.jury(2, 3600);
        }
        DUE.same("jury together", 3 + 8, Due.text(x, "\njury 2 3600;"));
        BunchTimes y = new BunchTimes();
        DUE.same("nobody is in", 3, Due.text(y, "stage flat 50;"));
        StringBuilder riders = new StringBuilder("team;");
        for (int n = 0; n < 16; n++) {
            riders.append("rider 0 20;");
        }
        DUE.same("sixteen", -17, Due.text(y, riders.toString()));
        DUE.same("seventeen", 3, Due.text(y, "rider 0 20;"));
    }

    private static void firstAlongTheText() {
        BunchTimes x = ready();
        DUE.same("3 needs its ;", 1 + 8 * 5, Due.text(x, "close"));
        DUE.same("3 needs its ;", 1 + 8 * 6, Due.text(x, "close team;"));
        DUE.same("3 ahead of a later 1", 3, Due.text(x, "close;;"));
        DUE.same("an int within ahead of 3 at the word", 2 + 8 * 9, Due.text(x, "come 0 5 9 5;come 0 5 0 5;"));
        DUE.same("2 where the statement can't be done either", 2 + 8 * 13, Due.text(x, "come 0 5 0 5 9 5;"));
        DUE.same("of one place the least", 1 + 8 * 4, Due.text(x, "gap 9999999;"));
        DUE.same("1 ahead of 2", 1 + 8 * 5, Due.text(x, "come ? 9 9;"));
        DUE.same("2 ahead of 1", 2 + 8 * 5, Due.text(x, "come 9 ?;"));
    }

    private static void allStays() {
        BunchTimes x = ready();
        x.keep(0);
        String text = "gap 50;zone 1;come 0 5000 1 6000 2 7000;over 0 0 1;fall 1 1 with 0;jury 1 5;grace 2;quit 3;close;team;oops;";
        int fault = 1 + 8 * text.indexOf("oops");
        DUE.same("told", fault, Due.text(x, text));
        int[] want = {2, 4, 4, 1, 0, 2, 0, 10, 3, 0};
        for (int what = 0; what < want.length; what++) {
            DUE.same("count(" + what + ")", want[what], x.count(what));
        }
        DUE.yes("finish", x.finish(0, 100));
        DUE.same("over", 1, x.over(0, 1));
        DUE.yes("fall", x.fall(1, 1, 0));
        DUE.same("jury", 1, x.jury(1, 1));
        DUE.yes("grace", x.grace(2));
        DUE.yes("what is kept", x.back(0));
        DUE.same("fault stays till the next tell", fault, x.fault());
        Due.feed(x, "team;".getBytes(StandardCharsets.ISO_8859_1));
        DUE.same("fault stays", fault, x.fault());
        DUE.same("tell", 1, x.tell());
        DUE.same("no fault", 0, x.fault());
    }
}
