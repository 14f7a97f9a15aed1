import java.util.List;

/** Term 4 at its edges, on which promises 4 and 5 rest: tokens, statements, the three kinds of FAULT and their places. */
final class FaultEdgesTest {
    private static final Due DUE = new Due();

    public static void main(String[] args) {
        DUE.sentence("TEXTS, at most 600 bytes: { STATEMENT ; }", FaultEdgesTest::sixHundredBytes);
        DUE.sentence("TOKENS: words (letters a to z, as many as stand there)", FaultEdgesTest::words);
        DUE.sentence("TOKENS: INTS (1 to 6 digits, as many as stand there)", FaultEdgesTest::ints);
        DUE.sentence("TOKENS: blanks (32, 10) between or not", FaultEdgesTest::blanks);
        DUE.sentence("TOKENS: each byte there is", FaultEdgesTest::bytes);
        DUE.sentence("1 what can't stand there: at each place of each STATEMENT", FaultEdgesTest::cannotStand);
        DUE.sentence("1 what can't stand there: { } of none, one, many; [ ]", FaultEdgesTest::repeated);
        DUE.sentence("1 (an INT of more than 6 digits, too)", FaultEdgesTest::moreThanSixDigits);
        DUE.sentence("the end's [place]: the text's length", FaultEdgesTest::placeOfTheEnd);
        DUE.sentence("2 an INT out of its bounds: TEAM there are none of", FaultEdgesTest::teams);
        DUE.sentence("2 an INT out of its bounds: AGE", FaultEdgesTest::ages);
        DUE.sentence("2 an INT out of its bounds: RIDER there are none of", FaultEdgesTest::riders);
        DUE.sentence("2 an INT out of its bounds: LENGTH", FaultEdgesTest::lengths);
        DUE.sentence("2 an INT out of its bounds: CLASS", FaultEdgesTest::classes);
        DUE.sentence("2 km of a MARK at its place: not behind the one ahead", FaultEdgesTest::kmNotBehind);
        DUE.sentence("2 km of a MARK at its place: not below LENGTH", FaultEdgesTest::kmNotBelow);
        DUE.sentence("2 MARK by the latest STAGE, without one MARKS there are none", FaultEdgesTest::marks);
        DUE.sentence("2 km by the latest STAGE, without one km 0 alone", FaultEdgesTest::kmFromTheEnd);
        DUE.sentence("2 of FINISH 0", FaultEdgesTest::finishes);
        DUE.sentence("2 of seconds 0", FaultEdgesTest::seconds);
        DUE.sentence("2 an INT out of its bounds: GAP", FaultEdgesTest::gaps);
        DUE.sentence("2 an INT out of its bounds: ZONE", FaultEdgesTest::zones);
        DUE.sentence("3 of which something can't be done: team", FaultEdgesTest::undoneTeam);
        DUE.sentence("3 of which something can't be done: rider", FaultEdgesTest::undoneRider);
        DUE.sentence("3 of which something can't be done: stage", FaultEdgesTest::undoneStage);
        DUE.sentence("3 of which something can't be done: come", FaultEdgesTest::undoneCome);
        DUE.sentence("3 of which something can't be done: over", FaultEdgesTest::undoneOver);
        DUE.sentence("3 of which something can't be done: fall", FaultEdgesTest::undoneFall);
        DUE.sentence("3 of which something can't be done: jury", FaultEdgesTest::undoneJury);
        DUE.sentence("3 of which something can't be done: grace, quit", FaultEdgesTest::undoneGraceAndQuit);
        DUE.sentence("3 of which something can't be done: close", FaultEdgesTest::undoneClose);
        DUE.sentence("3 (gap, zone as they are can)", FaultEdgesTest::rulesAsTheyAre);
        DUE.sentence("3 at the word of a STATEMENT (told whole, its ;, too)", FaultEdgesTest::toldWhole);
        DUE.sentence("the first along the text, of one place the least", FaultEdgesTest::firstAlongTheText);
        DUE.sentence("STATEMENTS are done one by one (as the calls do)", FaultEdgesTest::oneByOne);
        DUE.close();
    }

    /** A text with | where its FAULT is due, told to open(). */
    private static void fault(int kind, String text) {
        fault(Races.open(), kind, text);
    }

    private static void fault(BunchTimes x, int kind, String text) {
        DUE.same(text, kind + 8 * text.indexOf('|'), Due.text(x, text.replace("|", "")));
    }

    private static void told(int statements, String text) {
        told(Races.open(), statements, text);
    }

    private static void told(BunchTimes x, int statements, String text) {
        DUE.same(text, -statements, Due.text(x, text));
    }

    // ---- tokens

    private static void sixHundredBytes() {
        BunchTimes x = new BunchTimes();
        told(x, 0, "");
        told(x, 120, "gap1;".repeat(120));
        told(x, 119, "gap1;".repeat(118) + "     gap1;");
        fault(x, 1, "gap1;".repeat(119) + "gap10|");
        fault(x, 1, "gap1;".repeat(119) + "gap1|?");
        fault(x, 1, " ".repeat(599) + "|?");
        fault(x, 1, " ".repeat(599) + "|;");
        fault(x, 2, "gap1;".repeat(119) + "gap|0;");
        fault(x, 3, " ".repeat(594) + "|close;");
    }

    private static void words() {
        told(1, "team;");
        for (String word : new String[] {"t", "tea", "eam", "teams", "teamt", "teamteam", "ateam", "steam", "tean", "teal", "uteam", "a", "z",
            "abcdefghijklmnopqrstuvwxyz", "x".repeat(599)}) {
            fault(1, "|" + word + ";");
        }
        for (String word : new String[] {"rider", "stage", "come", "over", "fall", "jury", "grace", "quit", "gap", "zone", "close"}) {
            String shorter = word.substring(0, word.length() - 1);
            fault(1, "|" + shorter + " 0 20;");
            fault(1, "|" + word + "s 0 20;");
            fault(1, "|" + shorter + (char) (word.charAt(word.length() - 1) - 1) + " 0 20;");
        }
        wordsInside();
    }

    /** Each word, with each of its letters in turn another one. */
    private static void wordsInside() {
        String[][] parts = {{"", "team", ";"}, {"", "rider", " 0 20;"}, {"", "stage", " flat 9;"}, {"", "come", " 1 90000;"}, {"", "over", " 0 1;"},
            {"", "fall", " 1 1;"}, {"", "jury", " 1 5;"}, {"", "grace", " 1;"}, {"", "quit", " 1;"}, {"", "gap", " 5;"}, {"", "zone", " 5;"},
            {"", "close", ";"}, {"stage ", "flat", " 9;"}, {"stage ", "hills", " 9;"}, {"stage ", "peaks", " 9;"}, {"stage ", "trial", " 9;"},
            {"stage flat 9 ", "at", " 1 sprint;"}, {"stage flat 9 at 1 ", "sprint", ";"}, {"stage flat 9 at 1 ", "climb", " 1;"},
            {"fall 1 1 ", "with", " 2;"}};
        for (String[] p : parts) {
            DUE.yes(p[1] + " can stand there", Due.text(Races.open(), p[0] + p[1] + p[2]) % 8 != 1);
            for (int i = 0; i < p[1].length(); i++) {
                fault(1, p[0] + "|" + p[1].substring(0, i) + 'x' + p[1].substring(i + 1) + p[2]);
            }
        }
    }

    private static void ints() {
        told(1, "gap 1;");
        told(1, "gap 000001;");
        fault(1, "gap |0000001;");
        told(1, "come 1 999999;");
        fault(1, "come 1 |1000000;");
        fault(1, "come 1 |99999999999999999999999999;");
        fault(1, "come 1 |4294967297;");
        told(1, "come 000001 000001;");
        fault(1, "come 1 |-5;");
        fault(1, "come 1 |+5;");
        fault(1, "come 1 5|.5;");
        fault(1, "come 1 5|,5;");
        fault(1, "come 1|;");
        fault(2, "come |12 90000;");
    }

    private static void blanks() {
        told(1, "come1 90000 2\n90001;");
        told(1, " \n come \n\n 1  90000\n;\n \n");
        told(1, "fall1 2with0;");
        told(2, "gap5;zone5;");
        BunchTimes x = Races.between();
        told(x, 1, "stage flat9at1sprint at2climb4at3climb 1;");
        DUE.same("marks", 3, x.count(5));
        fault(Races.between(), 1, "stage |flatter 9;");
        fault(Races.between(), 1, "stage flat 9at 1 |sprintat 2 sprint;");
        fault(1, "|te am;");
        fault(1, "|gapzone 5;");
        // Two digits apart are two INTS.
        fault(1, "gap 1 |1;");
    }

    private static void bytes() {
        for (int b = 0; b < 256; b++) {
            char c = (char) b;
            boolean blank = b == 32 || b == 10;
            boolean letter = c >= 'a' && c <= 'z';
            boolean digit = c >= '0' && c <= '9';
            BunchTimes x = new BunchTimes();
            DUE.same("ahead of a word: byte " + b, blank ? -1 : 1, Due.text(x, c + "team;"));
            DUE.same("behind a word: byte " + b, blank ? -1 : letter ? 1 : 1 + 8 * (c == ';' ? 5 : 4), Due.text(x, "team" + c + ";"));
            int asInt = c == '0' ? 2 + 8 * 3 : digit ? -1 : letter ? 1 : 1 + 8 * (blank ? 4 : 3);
            DUE.same("for an INT: byte " + b, asInt, Due.text(x, "gap" + c + ";"));
        }
    }

    // ---- 1

    private static final String[] STATEMENTS = {"team ;", "rider 0 20 ;", "stage flat 90 at 10 sprint at 20 climb 2 ;",
        "stage hills 90 ;", "come 1 90000 2 90000 ;", "over 0 1 2 ;", "fall 1 1 ;", "fall 1 1 with 2 ;", "jury 1 5 ;", "grace 1 ;", "quit 1 ;",
        "gap 5 ;", "zone 5 ;", "close ;"};

    /** What may stand where another TOKEN of the STATEMENT stands, by { } and [ ]. */
    private static boolean canStand(String[] tokens, int i, String other) {
        boolean closing = tokens[i].equals(";");
        String word = tokens[0];
        if (closing && other.equals("5")) {
            return word.equals("come") || word.equals("over");
        }
        if (closing && other.equals("at")) {
            return word.equals("stage");
        }
        if (closing && other.equals("with")) {
            return word.equals("fall") && tokens.length == 4;
        }
        if (other.equals(";")) {
            return closing || word.equals("come") && i % 2 == 1 || word.equals("over") && i >= 2 || tokens[i].equals("at")
                || tokens[i].equals("with");
        }
        return other.equals("5") && Character.isDigit(tokens[i].charAt(0));
    }

    private static void cannotStand() {
        String[] others = {"5", ";", "team", "at", "with", "flats", "sprints", "climbs", "?", "A", "0000000"};
        for (String statement : STATEMENTS) {
            String[] tokens = statement.split(" ");
            for (int i = 0; i < tokens.length; i++) {
                for (String other : others) {
                    boolean same = tokens[i].equals(other) || i == 0 && other.equals("team");
                    if (!same && !canStand(tokens, i, other)) {
                        fault(1, ahead(tokens, i) + "|" + other + behind(tokens, i));
                    }
                }
                if (i > 0) {
                    fault(1, ahead(tokens, i) + "|");
                }
            }
        }
    }

    private static String ahead(String[] tokens, int i) {
        StringBuilder all = new StringBuilder("\n");
        for (String token : List.of(tokens).subList(0, i)) {
            all.append(token).append(' ');
        }
        return all.toString();
    }

    private static String behind(String[] tokens, int i) {
        StringBuilder all = new StringBuilder();
        for (String token : List.of(tokens).subList(i + 1, tokens.length)) {
            all.append(' ').append(token);
        }
        return all.toString();
    }

    private static void repeated() {
        told(3, "come;come 1 90000;come 0 90000 2 90000;");
        fault(1, "come 1|;");
        fault(1, "come 1 90000 2|;");
        told(3, "over 0;over 0 1;over 1 0 2;");
        fault(1, "over|;");
        told(2, "fall 1 1;fall 2 1 with 1;");
        fault(1, "fall 1 1 with|;");
        fault(1, "fall 1 1 with 2 |with 0;");
        fault(1, "fall 1 1 with 2 |0;");
        told(Races.between(), 1, "stage flat 9;");
        told(Races.between(), 1, "stage flat 9 at 1 sprint;");
        told(Races.between(), 1, "stage flat 9 at 1 sprint at 2 sprint at 3 sprint at 4 sprint at 5 sprint at 6 climb 4;");
        fault(1, "|;");
        fault(1, "team;|;");
    }

    private static void moreThanSixDigits() {
        for (String text : new String[] {"rider |0000000 20;", "rider 0 |0000020;", "stage flat |0000090;", "stage flat 90 at |0000010 sprint;",
            "stage flat 90 at 10 climb |0000001;", "come |0000001 90000;", "come 1 |0090000;", "over |0000000;", "over 0 |0000001;",
            "fall |0000001 1;", "fall 1 |0000001;", "fall 1 1 with |0000002;", "jury |0000001 5;", "jury 1 |0000005;", "grace |0000001;",
            "quit |0000001;", "gap |0000005;", "zone |0000005;", "|0000000;", "team |0000000;"}) {
            fault(1, text);
        }
    }

    private static void placeOfTheEnd() {
        fault(1, "team|");
        fault(1, "team   |");
        fault(1, "team \n|");
        fault(1, "gap|");
        fault(1, "gap 5|");
        fault(1, "come 1 |");
        told(1, "team;   ");
        BunchTimes x = new BunchTimes();
        fault(x, 1, "|t");
        Due.feed(x, "team;team".getBytes());
        x.end(4);
        DUE.none("the text ends where the tape does", x.tell());
        DUE.same("its place", 1 + 8 * 4, x.fault());
    }

    // ---- 2

    private static void teams() {
        fault(new BunchTimes(), 2, "rider |0 20;");
        fault(Races.between(), 2, "rider |2 20;");
        fault(Races.between(), 2, "rider |999999 20;");
        told(Races.between(), 2, "rider 0 20;rider 1 20;");
        told(Races.between(), 2, "team;rider 2 20;");
        BunchTimes x = Races.told("team;team;team;team;team;team;");
        told(x, 1, "rider 5 20;");
        fault(x, 2, "rider |6 20;");
    }

    private static void ages() {
        for (int age : new int[] {0, 15, 51, 999999}) {
            fault(2, "rider 0 |" + age + ";");
        }
        told(2, "rider 0 16;rider 0 50;");
    }

    private static void riders() {
        for (String text : new String[] {"come |R 90000;", "come 1 90000 |R 90000;", "over 0 |R;", "over 0 1 |R;", "fall |R 1;", "fall 1 1 with |R;",
            "jury |R 5;", "grace |R;", "quit |R;"}) {
            for (String none : new String[] {"4", "16", "999999"}) {
                fault(2, text.replace("R", none));
            }
            DUE.yes("the last there is, though he is out: " + text, Due.text(Races.open(), text.replace("|R", "3")) % 8 == 3);
            DUE.yes("another: " + text, Due.text(Races.open(), text.replace("|R", "2")) < 0);
        }
        for (String text : new String[] {"come |0 90000;", "fall |0 0;", "jury |0 5;", "grace |0;", "quit |0;"}) {
            fault(new BunchTimes(), 2, text);
        }
        BunchTimes x = Races.with(16);
        x.stage(0, 100);
        told(x, 1, "grace 15;");
        fault(x, 2, "grace |16;");
    }

    private static void lengths() {
        for (int length : new int[] {0, 301, 999999}) {
            fault(Races.between(), 2, "stage flat |" + length + ";");
        }
        told(Races.between(), 1, "stage flat 1;");
        told(Races.between(), 1, "stage flat 300;");
        for (String kind : new String[] {"hills", "peaks", "trial"}) {
            fault(Races.between(), 2, "stage " + kind + " |301;");
            told(Races.between(), 1, "stage " + kind + " 300;");
        }
    }

    private static void classes() {
        for (int how : new int[] {0, 5, 999999}) {
            fault(Races.between(), 2, "stage flat 90 at 10 climb |" + how + ";");
        }
        told(Races.between(), 1, "stage flat 90 at 10 climb 1 at 20 climb 4;");
    }

    private static void kmNotBehind() {
        fault(Races.between(), 2, "stage flat 90 at |0 sprint;");
        told(Races.between(), 1, "stage flat 90 at 1 sprint;");
        fault(Races.between(), 2, "stage flat 90 at 10 sprint at |10 sprint;");
        fault(Races.between(), 2, "stage flat 90 at 10 climb 4 at |9 sprint;");
        fault(Races.between(), 2, "stage flat 90 at 10 sprint at 20 sprint at |15 sprint;");
        fault(Races.between(), 2, "stage flat 90 at 10 sprint at |0 sprint;");
        told(Races.between(), 1, "stage flat 90 at 10 sprint at 11 sprint;");
        // The latest STAGE's MARKS are none of this one's.
        told(Races.between(), 1, "stage flat 90 at 9 sprint;");
    }

    private static void kmNotBelow() {
        fault(Races.between(), 2, "stage flat 90 at |90 sprint;");
        fault(Races.between(), 2, "stage flat 90 at |91 sprint;");
        fault(Races.between(), 2, "stage flat 90 at 89 sprint at |90 sprint;");
        told(Races.between(), 1, "stage flat 90 at 89 sprint;");
        fault(Races.between(), 2, "stage flat 1 at |1 sprint;");
        fault(Races.between(), 2, "stage flat 1 at |0 sprint;");
        told(Races.between(), 1, "stage flat 2 at 1 sprint;");
        told(Races.between(), 1, "stage flat 300 at 299 sprint;");
        fault(Races.between(), 2, "stage flat 300 at |300 sprint;");
    }

    private static void marks() {
        fault(Races.with(1), 2, "over |0 0;");
        fault(Races.with(1), 2, "over |0;");
        BunchTimes x = Races.with(1);
        x.stage(0, 100);
        fault(x, 2, "over |0 0;");
        x.mark(10, 0);
        fault(x, 2, "over |1 0;");
        told(x, 1, "over 0 0;");
        for (int km = 11; km <= 15; km++) {
            x.mark(km, 0);
        }
        told(x, 1, "over 5 0;");
        fault(x, 2, "over |6 0;");
        fault(x, 2, "over |999999 0;");
        // The latest STAGE is CLOSED: its MARKS are there, but can't be come over.
        fault(Races.between(), 3, "|over 1 0;");
        fault(Races.between(), 2, "over |2 0;");
    }

    private static void kmFromTheEnd() {
        fault(Races.with(1), 2, "fall 0 |1;");
        fault(Races.with(1), 3, "|fall 0 0;");
        fault(2, "fall 1 |101;");
        fault(2, "fall 1 |999999;");
        told(2, "fall 1 100;fall 2 0;");
        BunchTimes x = Races.with(1);
        x.stage(0, 1);
        fault(x, 2, "fall 0 |2;");
        told(x, 1, "fall 0 1;");
        fault(Races.between(), 2, "fall 0 |51;");
        fault(Races.between(), 3, "|fall 0 50;");
    }

    private static void finishes() {
        fault(2, "come 1 |0;");
        fault(2, "come 1 |000000;");
        fault(2, "come 1 90000 2 |0;");
        told(1, "come 1 1 2 999999;");
    }

    private static void seconds() {
        fault(2, "jury 1 |0;");
        fault(2, "jury 1 |3601;");
        fault(2, "jury 1 |999999;");
        told(2, "jury 1 1;jury 1 3600;");
    }

    private static void gaps() {
        fault(2, "gap |0;");
        fault(2, "gap |100;");
        fault(2, "gap |999999;");
        told(2, "gap 1;gap 99;");
    }

    private static void zones() {
        fault(2, "zone |10;");
        fault(2, "zone |999999;");
        told(2, "zone 0;zone 9;");
    }

    // ---- 3

    private static void undoneTeam() {
        told(4, "team;team;team;team;");
        fault(3, "team;team;team;team;|team;");
    }

    private static void undoneRider() {
        told(Races.with(15), 1, "rider 0 20;");
        fault(Races.with(16), 3, "|rider 0 20;");
        fault(Races.finishing(), 3, "|rider 0 20;");
        fault(3, "come 1 90000;|rider 0 20;");
        told(3, "come 1 90000;quit 1;rider 0 20;");
    }

    private static void undoneStage() {
        fault(3, "|stage flat 9;");
        fault(3, "|stage flat 9 at 1 sprint;");
        // A MARK that the OPEN STAGE could have.
        fault(3, "|stage flat 100 at 50 sprint;");
        fault(new BunchTimes(), 3, "|stage flat 9;");
        fault(new BunchTimes(), 3, "team; |stage flat 9;");
        String six = " at 1 sprint at 2 sprint at 3 sprint at 4 sprint at 5 sprint at 6 sprint";
        told(Races.between(), 1, "stage flat 9" + six + ";");
        fault(Races.between(), 3, "|stage flat 9" + six + " at 7 sprint;");
        fault(Races.between(), 3, "|stage flat 9" + six + " at 7 sprint at 8 climb 1;");
        BunchTimes x = Races.with(1);
        for (int s = 0; s < 7; s++) {
            x.stage(0, 100);
            x.finish(0, 100000);
            x.close();
        }
        told(x, 3, "stage flat 100;come 0 100000;close;");
        fault(x, 3, "|stage flat 100;");
    }

    private static void undoneCome() {
        fault(Races.with(1), 3, "|come 0 90000;");
        fault(Races.between(), 3, "|come 0 90000;");
        fault(3, "|come 3 90000;");
        fault(Races.finishing(), 3, "|come 0 90000;");
        fault(3, "|come 1 90000 1 90001;");
        fault(3, "|come 1 90000 3 90000 2 90000;");
        fault(3, "come 1 90000; |come 1 90000;");
    }

    private static void undoneOver() {
        fault(Races.between(), 3, "|over 0 0;");
        fault(3, "|over 0 3;");
        fault(3, "|over 0 0;");
        fault(3, "|over 0 1 2 1;");
        fault(3, "|over 0 1 3 2;");
        told(2, "over 0 1 2;over 1 0 2;");
    }

    private static void undoneFall() {
        fault(Races.between(), 3, "|fall 0 1;");
        fault(3, "|fall 3 1;");
        fault(3, "|fall 0 1;");
        fault(3, "|fall 1 1 with 1;");
        fault(3, "|fall 1 1 with 3;");
        fault(3, "fall 1 1;|fall 1 1 with 2;");
    }

    private static void undoneJury() {
        fault(Races.between(), 3, "|jury 0 5;");
        fault(3, "|jury 3 5;");
        BunchTimes x = Races.open();
        for (int n = 0; n < 27; n++) {
            x.jury(1, 3600);
        }
        fault(x, 3, "|jury 1 2800;");
        fault(x, 3, "jury 1 2799;|jury 1 1;");
        told(x, 1, "jury 1 2799;");
    }

    private static void undoneGraceAndQuit() {
        fault(Races.between(), 3, "|grace 0;");
        fault(3, "|grace 3;");
        fault(3, "|grace 0;");
        fault(Races.between(), 3, "|quit 0;");
        fault(3, "|quit 3;");
        fault(3, "quit 0;|quit 0;");
    }

    private static void undoneClose() {
        fault(new BunchTimes(), 3, "|close;");
        fault(Races.between(), 3, "|close;");
        fault(3, "|close;");
        told(Races.finishing(), 1, "close;");
        fault(Races.finishing(), 3, "close;|close;");
    }

    private static void rulesAsTheyAre() {
        BunchTimes x = new BunchTimes();
        told(x, 4, "gap 10;zone 3;gap 10;zone 3;");
        told(x, 4, "gap 99;gap 99;zone 0;zone 0;");
        DUE.same("gap", 99, x.count(7));
        DUE.same("zone", 0, x.count(8));
    }

    private static void toldWhole() {
        fault(1, "close|");
        fault(1, "close |5;");
        fault(1, "close |close;");
        fault(1, "come 3 90000|");
        fault(1, "stage flat 9 at 1 sprint|");
        fault(3, "|close;");
        fault(3, " \n|close \n;");
        fault(3, "team;\n|close;");
        fault(3, "|come 3 90000  ;");
    }

    private static void firstAlongTheText() {
        fault(3, "|close;;");
        fault(3, "|close;gap 0;");
        fault(2, "gap |0;close;");
        fault(2, "gap |0;;");
        fault(2, "gap |0");
        fault(2, "gap |0?");
        fault(1, "gap |?0;close;");
        fault(1, "team|?close;gap 0;");
        fault(2, "come |9 0;");
        fault(2, "come 1 |0 9 0;");
        // Of one place the least: what can't stand there has no bounds.
        fault(1, "gap |1000000;");
        fault(1, "team |0;");
        fault(2, "come 3 90000 |9 90000;");
    }

    private static void oneByOne() {
        BunchTimes x = new BunchTimes();
        told(x, 9, "team;rider 0 20;rider 0 20;stage flat 9 at 1 sprint;over 0 1;come 0 9000;come 1 9100;close;rider 0 20;");
        DUE.same("bonus of the first", 10, x.of(0, 5));
        DUE.same("bonus of the first over", 9, x.of(1, 5));
        DUE.same("those in", 3, x.count(2));
        told(x, 2, "gap 5;gap 6;");
        DUE.same("the latest", 6, x.count(7));
        String[] kinds = {"flat", "hills", "peaks", "trial"};
        for (int kind = 0; kind < 4; kind++) {
            x = Races.with(1);
            told(x, 3, "stage " + kinds[kind] + " 300;come 0 999999;close;");
            DUE.same(kinds[kind], kind, x.told(0, 0));
            DUE.same("length", 300, x.told(0, 1));
            DUE.same("finish", 999999, x.result(0, 0, 0));
        }
        int[] dots = {10, 5, 2, 1};
        for (int how = 1; how <= 4; how++) {
            x = Races.with(1);
            told(x, 4, "stage trial 9 at 1 climb " + how + ";over 0 0;come 0 9000;close;");
            DUE.same("climb " + how, dots[how - 1], x.of(0, 4));
        }
        x = Races.with(3);
        told(x, 7, "stage flat 100;come 0 100000 1 100100 2 108000;fall 1 3 with 0;jury 1 3600;jury 1 1;grace 2;close;");
        DUE.same("fall with", 10000, x.result(0, 1, 2));
        DUE.same("jury", 3601, x.of(1, 6));
        DUE.same("grace", 0, x.told(0, 7));
        told(x, 4, "stage flat 100;come 0 100000 1 100100 2 100200;fall 2 3;quit 0;");
        told(x, 1, "close;");
        DUE.same("fall with nobody", 10020, x.result(1, 2, 2));
        DUE.same("quit", 0, x.of(0, 2));
        told(x, 4, "rider 0 50;stage flat 100;come 1 100000 2 100100 3 100200;fall 3 9 with 1;");
        told(x, 2, "zone 9;close;");
        DUE.same("zone", 10000, x.result(2, 3, 2));
        DUE.same("age", 50, x.of(3, 1));
    }
}
