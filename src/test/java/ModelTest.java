import java.nio.charset.StandardCharsets;
import java.util.Arrays;
import java.util.NoSuchElementException;
import java.util.Random;

/** Random runs of calls (always the same ones) on the class and on the model beside it. */
final class ModelTest {
    private static final int RUNS = 400;
    private static final int DENSE_RUNS = 100;
    /** An object is promised for so many. */
    private static final int CALLS = 512;
    /** What is begun must not go beyond them: a text of 590 bytes, or all riders that come in ahead of a close. */
    private static final int MOST_AT_ONCE = 40;
    private static final int[] EDGES = {Integer.MIN_VALUE, Integer.MAX_VALUE, -2, -1, 0, 1, 2, 5, 6, 7, 8, 15, 16, 17, 25, 50,
        51, 98, 99, 100, 300, 301, 3600, 3601, 99999, 100000, 999999, 1000000};

    private final Random random;
    private final BunchTimes x = new BunchTimes();
    private final Model m = new Model();
    private final StringBuilder log = new StringBuilder();
    private int base;
    private int calls;
    private int toldTexts;
    private String wrongAnswer;

    private ModelTest(long seed) {
        random = new Random(seed);
    }

    public static void main(String[] args) {
        int bad = 0;
        int closed = 0;
        int texts = 0;
        for (int run = 0; run < RUNS + DENSE_RUNS && bad == 0; run++) {
            ModelTest t = new ModelTest(run);
            String wrong = run < RUNS ? t.run() : t.denseRun();
            if (wrong != null) {
                bad++;
                System.out.println("run " + run + ":\n" + t.log + wrong);
            }
            closed += t.x.count(4);
            texts += t.toldTexts;
        }
        System.out.println(RUNS + " mixed and " + DENSE_RUNS + " dense runs, stages closed at their ends: " + closed + ", texts told whole: " + texts);
        if (bad != 0 || closed < RUNS || texts < RUNS) {
            System.exit(1);
        }
    }

    private int below(int n) {
        return random.nextInt(n);
    }

    /** Mostly a number that fits, now and then one from an edge. */
    private int some(int least, int most) {
        return below(25) == 0 ? EDGES[below(EDGES.length)] : least + below(Math.max(1, most - least + 1));
    }

    private int rider() {
        return below(12) == 0 ? some(-1, 16) : below(Math.max(1, m.count(1)));
    }

    private int closedStage() {
        return below(12) == 0 ? some(-1, 8) : below(Math.max(1, m.count(4)));
    }

    private int tenths() {
        if (below(6) == 0) {
            return some(1, 999999);
        }
        return base + (below(3) == 0 ? below(12) : below(3) == 0 ? below(120) : below(base / 2 + 1));
    }

    private String run() {
        base = 1 + below(3) * below(100000);
        String wrong = null;
        for (int n = 0; n < CALLS && calls < CALLS - MOST_AT_ONCE && wrong == null; n++) {
            wrong = call();
        }
        return wrong;
    }

    /**
     * Stages of many mishaps, crossings and riders who do not come in; then most that comes of them
     * is asked. The calls that run() mixes in at random meet too few of such states.
     */
    private String denseRun() {
        int riders = 6 + below(11);
        tellField(riders);
        for (int s = 0; s < 2; s++) {
            tellDenseStage();
            String wrong = s < m.count(4) ? askStage(s) : null;
            if (wrong != null) {
                return wrong;
            }
        }
        String wrong = askStandings();
        return wrong == null && calls > CALLS ? "an object is asked more than " + CALLS + " times" : wrong;
    }

    private void tellField(int riders) {
        int teams = 1 + below(4);
        for (int t = 0; t < teams; t++) {
            both("team()", x.team(), m.team());
        }
        for (int r = 0; r < riders; r++) {
            int t = below(teams);
            int age = 20 + below(10);
            both("rider(" + t + "," + age + ")", x.rider(t, age), m.rider(t, age));
        }
    }

    private void tellDenseStage() {
        base = 600 + below(3) * below(100000);
        int riders = m.count(1);
        int kind = below(3) == 0 ? below(4) : below(2);
        int length = 7 + below(60);
        int zone = below(6);
        int gap = 1 + below(30);
        both("zone " + zone, x.rule(1, zone), m.rule(1, zone));
        both("gap " + gap, x.rule(0, gap), m.rule(0, gap));
        both("stage(" + kind + "," + length + ")", x.stage(kind, length), m.stage(kind, length));
        for (int k = 1; k <= 6; k++) {
            int how = below(5);
            both("mark(" + k + "," + how + ")", x.mark(k, how), m.mark(k, how));
        }
        int near = below(3) == 0 ? 2000 : 150;
        for (int r = 0; r < riders; r++) {
            int with = below(riders);
            int km = below(6);
            both("fall(" + r + "," + km + "," + with + ")", x.fall(r, km, with), m.fall(r, km, with));
            int tenths = base + below(near) + (below(6) == 0 ? base / 4 : 0);
            if (below(4) != 0) {
                both("finish(" + r + "," + tenths + ")", x.finish(r, tenths), m.finish(r, tenths));
            }
            int mark = below(6);
            int over = below(riders);
            both("over(" + mark + "," + over + ")", x.over(mark, over), m.over(mark, over));
        }
        for (int n = 0; n < 4; n++) {
            int r = below(riders);
            int seconds = 1 + below(20);
            both("jury(" + r + "," + seconds + ")", x.jury(r, seconds), m.jury(r, seconds));
            int g = below(riders);
            both("grace(" + g + ")", x.grace(g), m.grace(g));
        }
        int out = below(riders);
        both("quit(" + out + ")", x.quit(out), m.quit(out));
        both("close()", x.close(), m.close());
    }

    /** Keeps the first answer that differs; what is asked later tells it. */
    private void both(String call, int got, int want) {
        String wrong = same(call, got, want);
        wrongAnswer = wrongAnswer == null ? wrong : wrongAnswer;
    }

    private void both(String call, boolean got, boolean want) {
        both(call, got ? 1 : 0, want ? 1 : 0);
    }

    private String askStage(int s) {
        for (int what = 2; what <= 10; what++) {
            both("told(" + s + "," + what + ")", x.told(s, what), m.told(s, what));
        }
        for (int r = 0; r < m.count(1); r++) {
            for (int what : new int[] {2, 5, 6, 7}) {
                both("result(" + s + "," + r + "," + what + ")", x.result(s, r, what), m.result(s, r, what));
            }
        }
        return wrongAnswer;
    }

    private String askStandings() {
        for (int l = 0; l < 5; l++) {
            for (int i = 0; i == 0 || m.list(l, i - 1) != Model.NONE; i++) {
                both("list(" + l + "," + i + ")", x.list(l, i), m.list(l, i));
            }
        }
        for (int r = 0; r < m.count(1); r++) {
            both("total(" + r + ")", x.total(r, false), m.total(r, false));
            both("needs(" + r + ")", x.needs(r), m.needs(r));
            for (int what = 5; what <= 6; what++) {
                both("of(" + r + "," + what + ")", x.of(r, what), m.of(r, what));
            }
        }
        for (int t = 0; t < m.count(0); t++) {
            both("total(" + t + ", team)", x.total(t, true), m.total(t, true));
        }
        for (int j = 0; j < 4; j++) {
            both("jersey(" + j + ")", x.jersey(j, false), m.jersey(j, false));
        }
        for (int s = 0; s < 2; s++) {
            both("without(" + s + ")", x.without(s), m.without(s));
        }
        return wrongAnswer;
    }

    private String same(String call, long got, long want) {
        calls++;
        log.append(call).append(" = ").append(got).append('\n');
        return got == want ? null : call + " answered " + got + ", the model " + want;
    }

    private String same(String call, boolean got, boolean want) {
        return same(call, got ? 1 : 0, want ? 1 : 0);
    }

    private String call() {
        int pick = below(100);
        if (pick < 50) {
            return telling();
        }
        if (pick < 55) {
            return text();
        }
        return pick < 58 ? keeping() : asking();
    }

    private String telling() {
        int a;
        int b;
        int c;
        switch (below(18)) {
            case 0:
                return same("team()", x.team(), m.team());
            case 1:
            case 2:
            case 3:
                a = below(10) == 0 ? some(-1, 6) : below(Math.max(1, m.count(0)));
                b = some(16, 50);
                return same("rider(" + a + "," + b + ")", x.rider(a, b), m.rider(a, b));
            case 4:
            case 5:
                if (below(4) != 0 && m.count(1) < 6) {
                    return null;
                }
                a = some(0, 3);
                b = some(1, below(3) == 0 ? 300 : 20);
                base = 1 + below(3) * below(100000);
                return same("stage(" + a + "," + b + ")", x.stage(a, b), m.stage(a, b));
            case 6:
                a = some(1, below(2) == 0 ? 20 : 300);
                b = some(0, 4);
                return same("mark(" + a + "," + b + ")", x.mark(a, b), m.mark(a, b));
            case 7:
            case 8:
            case 9:
            case 10:
                a = rider();
                b = tenths();
                return same("finish(" + a + "," + b + ")", x.finish(a, b), m.finish(a, b));
            case 11:
                a = below(10) == 0 ? some(-1, 6) : below(Math.max(1, m.count(5)));
                b = rider();
                return same("over(" + a + "," + b + ")", x.over(a, b), m.over(a, b));
            case 12:
            case 13:
                a = rider();
                b = below(3) == 0 ? some(0, 300) : below(5);
                c = below(6) == 0 ? -1 : rider();
                return same("fall(" + a + "," + b + "," + c + ")", x.fall(a, b, c), m.fall(a, b, c));
            case 14:
                a = rider();
                b = below(5) == 0 ? 3600 : some(1, 3600);
                return same("jury(" + a + "," + b + ")", x.jury(a, b), m.jury(a, b));
            case 15:
                a = rider();
                return same("grace(" + a + ")", x.grace(a), m.grace(a));
            case 16:
                a = rider();
                if (below(12) == 0) {
                    return same("quit(" + a + ")", x.quit(a), m.quit(a));
                }
                b = below(3) == 0 ? some(-1, 2) : below(2);
                c = b == 1 ? some(0, 9) : some(1, 99);
                return same("rule(" + b + "," + c + ")", x.rule(b, c), m.rule(b, c));
            default:
                return close();
        }
    }

    /** Most of the time all come in first, for who does not is OUT. */
    private String close() {
        for (int r = 0; r < m.count(1); r++) {
            int f = tenths();
            String wrong = below(20) == 0 ? null : same("finish(" + r + "," + f + ")", x.finish(r, f), m.finish(r, f));
            if (wrong != null) {
                return wrong;
            }
        }
        return same("close()", x.close(), m.close());
    }

    private String keeping() {
        int a = below(8) == 0 ? some(-1, 2) : below(2);
        if (below(2) == 0) {
            return same("keep(" + a + ")", x.keep(a), m.keep(a));
        }
        return same("back(" + a + ")", x.back(a), m.back(a));
    }

    private String text() {
        StringBuilder t = new StringBuilder();
        for (int n = below(8); n >= 0; n--) {
            t.append(statement()).append(below(30) == 0 ? "" : ";");
        }
        if (t.length() > 590) {
            t.setLength(590);
        }
        if (below(10) == 0 && t.length() > 0) {
            t.setCharAt(below(t.length()), (char) below(256));
        }
        byte[] bytes = t.toString().getBytes(StandardCharsets.ISO_8859_1);
        byte[] full = Arrays.copyOf(bytes, bytes.length + 20);
        log.append("text ").append(t).append('\n');
        for (int i = 0; i + 20 <= full.length; i += 20) {
            int[] f = new int[5];
            for (int j = 0; j < 20; j++) {
                f[j / 4] = f[j / 4] << 8 | full[i + j] & 255;
            }
            String wrong = same("feed", x.feed(f[0], f[1], f[2], f[3], f[4]), m.feed(f));
            if (wrong != null) {
                return wrong;
            }
        }
        int n = below(20) == 0 ? some(-1, 600) : bytes.length;
        String wrong = same("end(" + n + ")", x.end(n), m.end(n));
        if (wrong == null) {
            wrong = same("tell()", x.tell(), m.tell());
        }
        toldTexts += m.fault() == 0 && bytes.length > 0 ? 1 : 0;
        return wrong == null ? same("fault()", x.fault(), m.fault()) : wrong;
    }

    private String gapOr() {
        return below(3) == 0 ? "  " : below(5) == 0 ? "\n" : " ";
    }

    private int least(int v) {
        return Math.max(0, v);
    }

    private String statement() {
        String g = gapOr();
        int r = least(rider());
        switch (below(14)) {
            case 0: return "team";
            case 1: return "rider" + least(some(0, Math.max(0, m.count(0) - 1))) + g + least(some(16, 50));
            case 2:
            case 3: return stageText();
            case 4:
            case 5: return "come" + g + pairs();
            case 6: return "over" + g + least(some(0, Math.max(0, m.count(5) - 1))) + g + r + " " + least(rider());
            case 7: return "fall " + r + g + below(6) + (below(2) == 0 ? "with" + g + least(rider()) : "");
            case 8: return "jury " + r + g + least(some(1, 3600));
            case 9: return "grace" + r;
            case 10: return below(5) == 0 ? "quit " + r : "team";
            case 11: return "gap " + least(some(1, 99));
            case 12: return "zone" + g + least(some(0, 9));
            default: return "close";
        }
    }

    private String stageText() {
        String[] kinds = {"flat", "hills", "peaks", "trial", "flats"};
        StringBuilder t = new StringBuilder("stage ").append(kinds[below(20) == 0 ? 4 : below(4)]).append(gapOr());
        int length = least(some(1, 300));
        t.append(length);
        int km = 0;
        for (int n = below(8); n > 0; n--) {
            km += below(30) == 0 ? 0 : 1 + below(Math.max(1, length / 8));
            t.append("at ").append(km).append(below(2) == 0 ? "sprint " : "climb" + (below(15) == 0 ? 5 : 1 + below(4)));
        }
        return t.toString();
    }

    private String pairs() {
        StringBuilder t = new StringBuilder();
        int first = below(Math.max(1, m.count(1)));
        for (int n = below(6), r = first; n > 0; n--, r++) {
            t.append(r).append(gapOr()).append(least(tenths())).append(gapOr());
        }
        return t.toString();
    }

    private String asking() {
        int s = closedStage();
        int r = rider();
        int a;
        int b;
        switch (below(18)) {
            case 0:
                a = some(-1, 10);
                return same("count(" + a + ")", x.count(a), m.count(a));
            case 1:
            case 2:
                return asking(r, some(0, 6));
            case 3:
            case 4:
                a = some(0, 10);
                return same("told(" + s + "," + a + ")", x.told(s, a), m.told(s, a));
            case 5:
                a = some(0, Math.max(0, m.count(1)));
                return same("order(" + s + "," + a + ")", x.order(s, a), m.order(s, a));
            case 6:
            case 7:
                a = some(0, 7);
                return same("result(" + s + "," + r + "," + a + ")", x.result(s, r, a), m.result(s, r, a));
            case 8:
                a = some(1, 99);
                return same("parted(" + s + "," + a + ")", x.parted(s, a), m.parted(s, a));
            case 9:
                return same("together(" + s + ")", x.together(s), m.together(s));
            case 10:
                return same("escaped(" + s + ")", x.escaped(s), m.escaped(s));
            case 11:
            case 12:
                a = some(0, 4);
                b = some(0, Math.max(0, m.count(2)));
                return same("list(" + a + "," + b + ")", x.list(a, b), m.list(a, b));
            case 13:
                a = below(2) == 0 ? below(6) : r;
                return same("total(" + a + ")", x.total(a, a != r), m.total(a, a != r));
            case 14:
                a = some(0, 3);
                boolean led = below(3) == 0;
                return same("jersey(" + a + "," + led + ")", x.jersey(a, led), m.jersey(a, led));
            case 15:
                return same("needs(" + r + ")", x.needs(r), m.needs(r));
            case 16:
                return same("without(" + s + ")", x.without(s), m.without(s));
            default:
                return breakaway();
        }
    }

    private String asking(int r, int what) {
        long got = Long.MIN_VALUE;
        long want = Long.MIN_VALUE;
        try {
            got = x.of(r, what);
        } catch (NoSuchElementException e) {
            log.append("throws ");
        }
        try {
            want = m.of(r, what);
        } catch (NoSuchElementException e) {
            log.append("model throws ");
        }
        return same("of(" + r + "," + what + ")", got, want);
    }

    private String breakaway() {
        int a = some(1, 16);
        int b = some(1, 16);
        int km = some(1, 300);
        int s = some(0, below(2) == 0 ? 300 : 3600);
        switch (below(3)) {
            case 0: return same("caught(" + a + "," + s + "," + km + "," + b + ")", x.caught(a, s, km, b), m.caught(a, s, km, b));
            case 1: return same("holds(" + a + "," + km + "," + b + ")", x.holds(a, km, b), m.holds(a, km, b));
            default: return same("chase(" + a + "," + s + "," + km + ")", x.chase(a, s, km), m.chase(a, s, km));
        }
    }
}
