import java.util.NoSuchElementException;

/** What an object answers, as one text, so that two objects can be set side by side. */
final class Answers {
    /** An object is promised for so many calls; what is told of it ahead of the asking needs some of them. */
    private static final int MOST_CALLS = 400;
    private static final int[] SOME_KM = {1, 5, 9, 10, 11, 20, 21, 40, 41, 60, 99};

    private final BunchTimes x;
    private final StringBuilder all = new StringBuilder();
    private int calls;

    private Answers(BunchTimes x) {
        this.x = x;
    }

    /** By the calls that only ask. */
    static String asked(BunchTimes x) {
        Answers a = new Answers(x);
        a.ask();
        return a.text();
    }

    /**
     * By the calls that only ask; then what an OPEN STAGE holds is brought to light by telling more
     * and closing it; then what is kept. The object is of no more use behind it.
     */
    static String revealed(BunchTimes x) {
        Answers a = new Answers(x);
        if (a.count(4) == a.count(3)) {
            a.ask();
        } else {
            a.askCounts();
            a.tellMore();
            a.ask();
        }
        a.askKept();
        return a.text();
    }

    /** A part of what asked() asks: 0 counts and riders, 1 lists, 2 and on the stages; all together are too many calls. */
    static String part(BunchTimes x, int part) {
        Answers a = new Answers(x);
        if (part == 0) {
            a.askCounts();
            a.askRiders();
        } else if (part == 1) {
            a.askLists();
        } else {
            a.askStage(part - 2);
        }
        return a.text();
    }

    private String text() {
        if (calls > MOST_CALLS) {
            throw new AssertionError(calls + " calls are more than an object is promised for");
        }
        return all.toString();
    }

    private int count(int what) {
        calls++;
        return x.count(what);
    }

    private void line(String what) {
        all.append('\n').append(what);
    }

    private void add(int answer) {
        calls++;
        all.append(' ').append(answer);
    }

    private void add(boolean answer) {
        add(answer ? 1 : 0);
    }

    private void ask() {
        askCounts();
        askRiders();
        int closed = count(4);
        for (int s = 0; s < closed; s++) {
            askStage(s);
        }
        askLists();
    }

    private void askLists() {
        int in = count(2);
        for (int l = 0; l < 5; l++) {
            line("list " + l + ", jersey, team:");
            add(x.jersey(l, false));
            add(x.total(l, true));
            for (int i = 0; i < in; i++) {
                add(x.list(l, i));
            }
        }
    }

    private void askCounts() {
        line("counts and fault:");
        for (int what = 0; what < 10; what++) {
            add(x.count(what));
        }
        add(x.fault());
    }

    private void askRiders() {
        int riders = count(1);
        for (int r = 0; r < riders; r++) {
            line("rider " + r + ":");
            for (int what = 0; what < 7; what++) {
                add(of(r, what));
            }
            add(x.total(r, false));
            add(x.needs(r));
        }
    }

    private int of(int rider, int what) {
        try {
            return x.of(rider, what);
        } catch (NoSuchElementException e) {
            return Integer.MIN_VALUE;
        }
    }

    private void askStage(int s) {
        line("stage " + s + ":");
        for (int what = 0; what < 11; what++) {
            add(x.told(s, what));
        }
        add(x.together(s));
        add(x.escaped(s));
        add(x.without(s));
        int riders = count(1);
        for (int r = 0; r < riders; r++) {
            line(" order, results of " + r + ":");
            add(x.order(s, r));
            for (int what = 0; what < 8; what++) {
                add(x.result(s, r, what));
            }
        }
    }

    private void tellMore() {
        line("marks:");
        for (int km : SOME_KM) {
            add(x.mark(km, 0));
        }
        int riders = count(1);
        int marks = count(5);
        for (int r = 0; r < riders; r++) {
            line("more of rider " + r + ":");
            for (int m = 0; m < marks; m++) {
                add(x.over(m, r));
            }
            add(x.fall(r, 0, BunchTimes.NONE));
            add(x.jury(r, 1));
            add(x.grace(r));
            add(x.finish(r, 92000 + 200 * r));
        }
        line("close:");
        add(x.close());
    }

    private void askKept() {
        for (int slot = 0; slot < 2; slot++) {
            line("back to " + slot + ":");
            add(x.back(slot));
            askCounts();
        }
    }
}
