/**
 * Races in which as much is told as there can be: sixteen riders, a stage that is closed and one that is open, each
 * with six marks, mishaps, seconds, grace. The two variants have hardly an answer in common.
 */
final class FullRace {
    private static final int RIDERS = 16;
    private static final int MARKS = 6;
    private static final int TEXT_BYTES = 600;

    private final BunchTimes x;
    private final int variant;
    private final StringBuilder text = new StringBuilder();
    private final boolean[] out = new boolean[RIDERS];

    private FullRace(BunchTimes x, int variant) {
        this.x = x;
        this.variant = variant;
    }

    /** Told to an object to which nothing is told yet, or that went back to that. */
    static void tell(BunchTimes x, int variant) {
        FullRace race = new FullRace(x, variant);
        race.tellRiders();
        race.tellStage(variant == 0 ? "flat" : "hills", 100 + 20 * variant);
        race.tellFinishes();
        race.tellClose();
        race.tellStage(variant == 0 ? "hills" : "flat", 150 + 30 * variant);
        race.flush();
    }

    /** What the open stage holds is brought to light: who can come in does, some of them late, and it is closed. */
    static void reveal(BunchTimes x) {
        for (int r = 0; r < RIDERS; r++) {
            x.finish(r, (r % 3 == 0 ? 150000 : 190000) + 40 * r);
        }
        x.close();
    }

    private void add(String statement) {
        if (text.length() + statement.length() + 1 > TEXT_BYTES) {
            flush();
        }
        text.append(statement).append(';');
    }

    private void flush() {
        Races.more(x, text.toString());
        text.setLength(0);
    }

    private void tellRiders() {
        int teams = 6 - 2 * variant;
        for (int t = 0; t < teams; t++) {
            add("team");
        }
        for (int r = 0; r < RIDERS; r++) {
            add("rider " + (r * 5 + variant) % teams + " " + (16 + (r * 7 + variant * 11) % 35));
        }
        add("gap " + (15 - 8 * variant));
        add("zone " + (5 - 3 * variant));
    }

    private void tellStage(String kind, int length) {
        StringBuilder marks = new StringBuilder();
        for (int m = 0; m < MARKS; m++) {
            int how = (m + 2 * variant) % 5;
            marks.append(" at ").append(10 * (m + 1) + variant).append(how == 0 ? " sprint" : " climb " + how);
        }
        add("stage " + kind + " " + length + marks);
        for (int m = 0; m < MARKS; m++) {
            tellCrossings(m);
        }
        for (int r = 0; r < RIDERS; r++) {
            if (!out[r]) {
                tellOf(r);
            }
        }
    }

    private void tellCrossings(int mark) {
        StringBuilder over = new StringBuilder("over " + mark);
        for (int i = 0; i < RIDERS; i++) {
            int rider = (i * (variant == 0 ? 3 : 5) + mark + 7 * variant) % RIDERS;
            if (!out[rider]) {
                over.append(' ').append(rider);
            }
        }
        add(over.toString());
    }

    private void tellOf(int rider) {
        int with = (rider * 5 + 1 + variant) % RIDERS;
        add("fall " + rider + " " + (rider + variant) % 6 + (with != rider && !out[with] ? " with " + with : ""));
        if (rider % 3 == variant || rider == 15) {
            add("jury " + rider + " " + (10 * rider + 1 + variant));
        }
        if (rider % 4 == variant || rider == 15) {
            add("grace " + rider);
        }
    }

    /** All but one; the wider they come the farther behind, so that the last are late. */
    private void tellFinishes() {
        StringBuilder come = new StringBuilder("come");
        for (int r = 0; r < RIDERS; r++) {
            int place = (r * 5 + 3 * variant) % RIDERS;
            if (r != (variant == 0 ? 4 : 9)) {
                come.append(' ').append(r).append(' ').append(100000 + place * place * (40 + 60 * variant));
            }
        }
        add(come.toString());
    }

    private void tellClose() {
        add("close");
        flush();
        for (int r = 0; r < RIDERS; r++) {
            out[r] = x.of(r, 2) == 0;
        }
    }
}
