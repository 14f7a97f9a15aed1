import java.util.Arrays;
import java.util.function.Consumer;

/** Promises 2 to 5 at their edges, sentence by sentence: the tape, and what telling it answers. */
final class TapeEdgesTest {
    private static final Due DUE = new Due();
    private static final int BLANKS = 0x20202020;
    private static final int TEAM = 0x7465616d;
    private static final int END_OF_TEAM = 0x3b202020;

    public static void main(String[] args) {
        DUE.sentence("2: Twenty bytes come behind the TAPE: how many it has.", TapeEdgesTest::twentyBytes);
        DUE.sentence("2: of each number the highest first", TapeEdgesTest::highestFirst);
        DUE.sentence("2: NONE, and none come: more than 600.", TapeEdgesTest::moreThanSixHundred);
        DUE.sentence("3: The TAPE has its first n bytes alone: true.", TapeEdgesTest::firstBytesAlone);
        DUE.sentence("3: false: it has not so many", TapeEdgesTest::notSoMany);
        DUE.sentence("3: false: n is below 0", TapeEdgesTest::belowNone);
        DUE.sentence("4: how many STATEMENTS", TapeEdgesTest::howManyStatements);
        DUE.sentence("4: The TAPE (empty then)", TapeEdgesTest::emptyThen);
        DUE.sentence("4: NONE: a FAULT", TapeEdgesTest::noneByAFault);
        DUE.sentence("4: all else stays as it was ahead of the TEXT", TapeEdgesTest::allElseStays);
        DUE.sentence("5: FAULT of the latest tell()", TapeEdgesTest::ofTheLatest);
        DUE.sentence("5: 0 without", TapeEdgesTest::zeroWithout);
        DUE.sentence("5: and ahead of any", TapeEdgesTest::aheadOfAny);
        DUE.close();
    }

    private static int feedTeam(BunchTimes x) {
        return x.feed(TEAM, END_OF_TEAM, BLANKS, BLANKS, BLANKS);
    }

    private static int feedBlanks(BunchTimes x) {
        return x.feed(BLANKS, BLANKS, BLANKS, BLANKS, BLANKS);
    }

    /** As open(), with so many blanks on the tape. */
    private static BunchTimes taped(int bytes) {
        BunchTimes x = Races.open();
        for (int n = 0; n < bytes; n += 20) {
            feedBlanks(x);
        }
        x.end(bytes);
        return x;
    }

    // ---- 2

    private static void twentyBytes() {
        BunchTimes x = new BunchTimes();
        for (int n = 20; n <= 600; n += 20) {
            DUE.same("feed", n, feedBlanks(x));
            DUE.same("count(9)", n, x.count(9));
        }
        x = new BunchTimes();
        feedTeam(x);
        x.end(5);
        DUE.same("behind five", 25, feedTeam(x));
        DUE.same("both are told", 2, x.tell());
        DUE.same("from the begin again", 20, feedBlanks(x));
    }

    /** A byte that can't stand anywhere, at each place of the twenty; its FAULT tells where it came. */
    private static void highestFirst() {
        BunchTimes x = new BunchTimes();
        for (int place = 0; place < 20; place++) {
            for (int wrong : new int[] {0, '?', 127, 128, 255}) {
                int[] n = {BLANKS, BLANKS, BLANKS, BLANKS, BLANKS};
                int shift = 24 - place % 4 * 8;
                n[place / 4] = BLANKS & ~(255 << shift) | wrong << shift;
                x.feed(n[0], n[1], n[2], n[3], n[4]);
                DUE.none("tell", x.tell());
                DUE.same("byte " + wrong + " at " + place, 1 + 8 * place, x.fault());
            }
            x = new BunchTimes();
        }
        for (int number : new int[] {Integer.MIN_VALUE, -1, Integer.MAX_VALUE, 0}) {
            DUE.same("feed", 20, x.feed(number, number, number, number, number));
            DUE.none("tell", x.tell());
        }
    }

    private static void moreThanSixHundred() {
        DUE.same("580 and 20", 600, feedTeam(taped(580)));
        for (int has : new int[] {581, 599, 600}) {
            BunchTimes x = taped(has);
            DUE.none(has + " and 20", feedTeam(x));
            DUE.same("none come", has, x.count(9));
            DUE.no("not one more", x.end(has + 1));
            DUE.same("nothing but blanks is told", 0, x.tell());
            DUE.same("teams", 2, x.count(0));
            DUE.refusedNone(has + " and 20", () -> taped(has), TapeEdgesTest::feedTeam);
        }
        BunchTimes x = taped(600);
        DUE.none("full", feedTeam(x));
        x.end(580);
        DUE.same("not full any more", 600, feedTeam(x));
        DUE.same("its last bytes are told", 1, x.tell());
    }

    // ---- 3

    private static void firstBytesAlone() {
        BunchTimes x = new BunchTimes();
        x.feed(TEAM, 0x3b746561, 0x6d3b7465, 0x616d3b20, BLANKS);
        DUE.yes("all", x.end(20));
        DUE.same("count(9)", 20, x.count(9));
        DUE.yes("ten", x.end(10));
        DUE.same("count(9)", 10, x.count(9));
        DUE.same("the first two statements", 2, x.tell());
        feedTeam(x);
        DUE.yes("one", x.end(1));
        DUE.same("what is cut off is gone", 21, feedBlanks(x));
        DUE.none("t", x.tell());
        feedTeam(x);
        DUE.yes("none", x.end(0));
        DUE.same("count(9)", 0, x.count(9));
        DUE.same("no statement", 0, x.tell());
        DUE.yes("none of an empty one", x.end(0));
        x = taped(600);
        DUE.yes("600", x.end(600));
        DUE.yes("599", x.end(599));
        DUE.same("count(9)", 599, x.count(9));
    }

    private static void notSoMany() {
        DUE.refused("one of none", () -> taped(0), x -> x.end(1));
        DUE.refused("21 of 20", () -> taped(20), x -> x.end(21));
        DUE.refused("all there can be", () -> taped(20), x -> x.end(600));
        DUE.refused("601 of 600", () -> taped(600), x -> x.end(601));
        DUE.refused("very many", () -> taped(600), x -> x.end(Integer.MAX_VALUE));
        BunchTimes x = taped(20);
        x.end(5);
        DUE.no("not those that were cut off", x.end(6));
    }

    private static void belowNone() {
        for (int n : new int[] {-1, -20, Integer.MIN_VALUE}) {
            DUE.refused("end " + n, () -> taped(20), x -> x.end(n));
            DUE.refused("end " + n + " of none", () -> taped(0), x -> x.end(n));
        }
    }

    // ---- 4

    private static void howManyStatements() {
        BunchTimes x = new BunchTimes();
        DUE.same("none", 0, x.tell());
        DUE.same("none of blanks", 0, Due.text(x, " \n".repeat(300)));
        DUE.same("one", -1, Due.text(x, "team;"));
        DUE.same("each kind", -12, Due.text(x, "team;rider 0 20;stage flat 9 at 1 sprint;come 0 10000;over 0 0;fall 0 1;jury 0 1;"
            + "grace 0;gap 9;zone 9;close;stage flat 9;"));
        DUE.same("quit", -1, Due.text(x, "quit 0;"));
        DUE.same("as many as there can be", -120, Due.text(x, "gap1;".repeat(120)));
        DUE.same("the last one's done too", -120, Due.text(x, "gap2;".repeat(119) + "gap3;"));
        DUE.same("gap", 3, x.count(7));
    }

    private static void emptyThen() {
        BunchTimes x = new BunchTimes();
        feedTeam(x);
        DUE.same("tell", 1, x.tell());
        DUE.same("empty", 0, x.count(9));
        DUE.same("nothing is left to tell", 0, x.tell());
        DUE.same("teams", 1, x.count(0));
        x.feed(TEAM, TEAM, TEAM, TEAM, TEAM);
        DUE.none("a fault", x.tell());
        DUE.same("empty behind it, too", 0, x.count(9));
        DUE.same("nothing is left to tell", 0, x.tell());
        DUE.no("not one byte", x.end(1));
    }

    private static void noneByAFault() {
        for (String text : new String[] {"t", "team", "team;;", "rider 6 20;", "close;"}) {
            BunchTimes x = new BunchTimes();
            Due.feed(x, text.getBytes());
            DUE.none(text, x.tell());
        }
    }

    /** A text whose every statement could be done, but for its last; each kind of FAULT, behind each kind of statement. */
    private static void allElseStays() {
        String[] done = {"team;", "come 1 95000;", "over 0 1 2;", "over 1 0;", "fall 1 1 with 2;", "jury 1 9;", "grace 1;", "quit 1;",
            "gap 99;", "zone 9;", "rider 0 20;", "come 0 90000;close;", "come 0 90000;close;stage flat 9 at 1 sprint;",
            "come 0 90000;close;stage peaks 200;come 0 9;close;"};
        for (String faulty : new String[] {"oops;", "team", "gap 0;", "grace 3;"}) {
            for (String text : done) {
                BunchTimes x = Races.open();
                DUE.yes(text, Due.text(x, text + faulty) > 0);
                DUE.sameText("behind " + text + faulty, Answers.revealed(faulty(Races.open(), x.fault())), Answers.revealed(x));
            }
        }
        for (String faulty : new String[] {"come 0 90000 1 90000 0 90000;", "over 0 1 2 1;", "stage flat 9 at 1 sprint;", "fall 1 1 with 1;",
            "come 0 90000 1;", "over 0 1 9;", "come 1 95000 2 0;"}) {
            BunchTimes x = Races.open();
            DUE.yes(faulty, Due.text(x, faulty) > 0);
            DUE.sameText("behind a part of " + faulty, Answers.revealed(faulty(Races.open(), x.fault())), Answers.revealed(x));
        }
        for (int variant = 0; variant < 2; variant++) {
            int v = variant;
            DUE.sameRace("as much as there can be", () -> failedFull(false, v), () -> failedFull(true, v));
        }
    }

    /** A race in which as much is told as there can be, and a text that tells more, closes the stage, and fails. */
    private static BunchTimes failedFull(boolean fails, int variant) {
        BunchTimes x = new BunchTimes();
        FullRace.tell(x, variant);
        if (fails) {
            Due.text(x, "team;".repeat(2 * variant) + "come 0 140000 1 150000 3 150000;gap 99;zone 9;close;rider 0 20;?");
            Due.text(x, "come 0 140000;close;stage trial 9 at 1 sprint;over 0 0;come 0 9000;close;close;");
            Due.text(x, "quit 0;quit 1;quit 3;quit 5;come 6 150000;close;gap 0;");
            Due.text(x, "");
        }
        FullRace.reveal(x);
        return x;
    }

    /** The FAULT is what a failed text changes; here another text makes the same one. */
    private static BunchTimes faulty(BunchTimes x, int fault) {
        byte[] text = new byte[600];
        Arrays.fill(text, (byte) ' ');
        String part = fault % 8 == 1 ? "?" : fault % 8 == 2 ? "gap 0;" : "grace 3;";
        int place = fault / 8 - (fault % 8 == 2 ? 4 : 0);
        System.arraycopy(part.getBytes(), 0, text, place, part.length());
        if (Due.text(x, text) != fault) {
            throw new AssertionError("fault " + x.fault() + " is not " + fault);
        }
        return x;
    }

    // ---- 5

    private static void ofTheLatest() {
        BunchTimes x = new BunchTimes();
        Due.text(x, "team;?");
        DUE.same("fault", 1 + 8 * 5, x.fault());
        DUE.same("asked again", 1 + 8 * 5, x.fault());
        Due.text(x, "gap 0;");
        DUE.same("of the next", 2 + 8 * 4, x.fault());
        Due.text(x, "  close;");
        DUE.same("of the next", 3 + 8 * 2, x.fault());
        for (Consumer<BunchTimes> call : Arrays.<Consumer<BunchTimes>>asList(TapeEdgesTest::feedTeam, y -> y.end(3), BunchTimes::team,
            y -> y.rider(0, 20), y -> y.stage(0, 9), y -> y.keep(0), y -> y.back(0), y -> y.finish(0, 9000), BunchTimes::close,
            y -> y.rule(0, 5), y -> y.end(-1), y -> y.stage(9, 9))) {
            call.accept(x);
            DUE.same("other calls leave it", 3 + 8 * 2, x.fault());
        }
    }

    private static void zeroWithout() {
        BunchTimes x = new BunchTimes();
        Due.text(x, "team;");
        DUE.same("told", 0, x.fault());
        Due.text(x, "?");
        DUE.same("a fault", 1, x.fault());
        Due.text(x, "team;");
        DUE.same("told", 0, x.fault());
        Due.text(x, "?");
        x.tell();
        DUE.same("an empty tape is told", 0, x.fault());
    }

    private static void aheadOfAny() {
        BunchTimes x = new BunchTimes();
        DUE.same("new", 0, x.fault());
        x.feed(0, 0, 0, 0, 0);
        x.team();
        DUE.none("a call that is refused", x.rider(9, 9));
        DUE.same("told by calls alone", 0, x.fault());
    }
}
