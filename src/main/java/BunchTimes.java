import java.util.NoSuchElementException;

/**
 * A race of stages: riders come in bunches that share a time, lists are led, breakaways are caught.
 * The words in capitals are those of the document that this class keeps to.
 */
public final class BunchTimes {

    /** There is none. */
    public static final int NONE = -1;

    private static final int TEAMS = 6;
    private static final int RIDERS = 16;
    private static final int STAGES = 8;
    private static final int MARKS = 6;
    private static final int SLOTS = 2;
    private static final int TAPE_BYTES = 600;
    private static final int FED_BYTES = 20;

    private static final int LEAST_AGE = 16;
    private static final int MOST_AGE = 50;
    private static final int YOUNG_AGE = 25;
    private static final int MOST_LENGTH = 300;
    private static final int MOST_FINISH = 999999;
    private static final int MOST_JURY = 3600;
    private static final int MOST_JURY_TOGETHER = 99999;
    private static final int MOST_GAP = 99;
    private static final int MOST_ZONE = 9;
    private static final int MOST_AHEAD = 3600;

    private static final int FLAT = 0;
    private static final int HILLS = 1;
    private static final int PEAKS = 2;
    private static final int TRIAL = 3;

    private static final int SPRINT = 0;
    private static final int MOST_CLASS = 4;

    private static final int GENERAL_LIST = 0;
    private static final int POINTS_LIST = 1;
    private static final int DOTS_LIST = 2;
    private static final int YOUNG_LIST = 3;
    private static final int TEAMS_LIST = 4;

    private static final int OF_POINTS = 3;
    private static final int OF_DOTS = 4;
    private static final int OF_BONUS = 5;
    private static final int OF_JURY = 6;

    private static final int TEAM_TIMES = 3;
    private static final int PLACE_WITHOUT = 99;
    private static final int NO_TOTAL = -1000000;

    private final Race race;
    private final Race ahead;
    private final Race[] kept;
    private final Standings standings;
    private final Tape tape;

    public BunchTimes() {
        race = new Race();
        ahead = new Race();
        kept = new Race[SLOTS];
        standings = new Standings();
        tape = new Tape();
    }

    // ---- what is told

    public int feed(int a, int b, int c, int d, int e) {
        if (tape.length + FED_BYTES > TAPE_BYTES) {
            return NONE;
        }
        tape.putFour(a);
        tape.putFour(b);
        tape.putFour(c);
        tape.putFour(d);
        tape.putFour(e);
        return tape.length;
    }

    public boolean end(int n) {
        if (!within(n, 0, tape.length)) {
            return false;
        }
        tape.length = n;
        return true;
    }

    public int tell() {
        ahead.copyFrom(race);
        tape.begin();
        int statements = 0;
        for (; statements < TAPE_BYTES && tape.hasMore(); statements++) {
            int word = tape.start;
            tape.endStatement(word, Teller.tellStatement(race, tape));
        }
        tape.length = 0;
        if (tape.fault == 0) {
            return statements;
        }
        race.copyFrom(ahead);
        return NONE;
    }

    public int fault() {
        return tape.fault;
    }

    public int team() {
        return race.addTeam();
    }

    public int rider(int team, int age) {
        return race.addRider(team, age);
    }

    public int stage(int kind, int length) {
        return race.openStage(kind, length);
    }

    public int mark(int km, int how) {
        return race.addMark(km, how);
    }

    public boolean finish(int rider, int tenths) {
        return race.addFinish(rider, tenths);
    }

    public int over(int mark, int rider) {
        return race.addCrossing(mark, rider);
    }

    public boolean fall(int rider, int km, int with) {
        return race.addFall(rider, km, with);
    }

    public int jury(int rider, int seconds) {
        return race.addJury(rider, seconds);
    }

    public boolean grace(int rider) {
        return race.addGrace(rider);
    }

    public boolean quit(int rider) {
        return race.dropRider(rider);
    }

    public boolean rule(int what, int v) {
        if (what == 0) {
            return race.gap != v && race.setGap(v);
        }
        return what == 1 && race.zone != v && race.setZone(v);
    }

    public int close() {
        return race.closeStage();
    }

    public boolean keep(int slot) {
        if (!within(slot, 0, SLOTS - 1)) {
            return false;
        }
        if (kept[slot] == null) {
            kept[slot] = new Race();
        }
        kept[slot].copyFrom(race);
        return true;
    }

    public boolean back(int slot) {
        if (!within(slot, 0, SLOTS - 1) || kept[slot] == null) {
            return false;
        }
        race.copyFrom(kept[slot]);
        return true;
    }

    public int count(int what) {
        switch (what) {
            case 0: return race.teams;
            case 1: return race.riders;
            case 2: return race.countIn();
            case 3: return race.stages;
            case 4: return race.closed();
            case 5: return race.latestMarks();
            case 6: return race.latestFinishers();
            case 7: return race.gap;
            case 8: return race.zone;
            case 9: return tape.length;
            default: return NONE;
        }
    }

    public int of(int rider, int what) throws NoSuchElementException {
        if (!race.hasRider(rider) || !within(what, 0, OF_JURY)) {
            throw new NoSuchElementException();
        }
        switch (what) {
            case 0: return race.teamOf[rider];
            case 1: return race.age[rider];
            case 2: return race.in[rider] ? 1 : 0;
            default: return race.gained(rider, what);
        }
    }

    // ---- a stage that is closed (NONE: there is none such)

    public int told(int stage, int what) {
        Stage s = race.closedStage(stage);
        return s == null ? NONE : s.fact(what);
    }

    public int order(int stage, int i) {
        Stage s = race.closedStage(stage);
        if (s == null || !within(i, 0, s.finishers - 1)) {
            return NONE;
        }
        return s.order[i];
    }

    public int result(int stage, int rider, int what) {
        Stage s = race.closedStage(stage);
        if (s == null || !race.hasRider(rider) || s.finish[rider] == 0) {
            return NONE;
        }
        return s.resultOf(rider, what);
    }

    public int parted(int stage, int gap) {
        Stage s = race.closedStage(stage);
        return s == null || !within(gap, 1, MOST_GAP) ? NONE : s.countBunches(gap);
    }

    public int together(int stage) {
        Stage s = race.closedStage(stage);
        return s == null ? NONE : s.joiningGap();
    }

    public int escaped(int stage) {
        Stage s = race.closedStage(stage);
        return s == null ? NONE : s.aheadOfWidest();
    }

    // ---- lists

    public int list(int list, int i) {
        standings.rankList(race, list);
        return standings.entry(i);
    }

    public int total(int which, boolean team) {
        if (!team) {
            return race.isIn(which) ? race.sumOf(which, NONE) : NO_TOTAL;
        }
        return race.isRanked(which) ? race.teamSum(which) : NO_TOTAL;
    }

    public int jersey(int jersey, boolean led) {
        if (!within(jersey, GENERAL_LIST, YOUNG_LIST)) {
            return NONE;
        }
        if (!led) {
            return standings.wearer(race, jersey);
        }
        standings.rankList(race, jersey);
        return standings.entry(0);
    }

    public int needs(int rider) {
        if (!race.isIn(rider) || race.closed() == 0) {
            return NONE;
        }
        standings.rankRiders(race, NONE, MOST_AGE);
        return standings.lacking(rider);
    }

    public int without(int stage) {
        if (race.closedStage(stage) == null) {
            return NONE;
        }
        standings.rankRiders(race, stage, MOST_AGE);
        return standings.entry(0);
    }

    // ---- breakaways

    public int caught(int a, int seconds, int km, int b) {
        if (!Breakaway.canBe(a, km, b) || !within(seconds, 0, MOST_AHEAD)) {
            return NONE;
        }
        return Breakaway.metresLeft(a, seconds, km, b);
    }

    public int holds(int a, int km, int b) {
        return Breakaway.canBe(a, km, b) ? Breakaway.leastAhead(a, km, b) : NONE;
    }

    public int chase(int a, int seconds, int km) {
        for (int b = 1; b <= RIDERS; b++) {
            if (caught(a, seconds, km, b) != NONE) {
                return b;
            }
        }
        return NONE;
    }

    private static boolean within(int v, int least, int most) {
        return v >= least && v <= most;
    }

    /** All that is told of a race, in one object, so that it can be kept and gone back to. */
    private static final class Race {
        private int teams;
        private int riders;
        private int stages;
        private boolean open;
        private int gap = 10;
        private int zone = 3;
        private final int[] teamOf = new int[RIDERS];
        private final int[] age = new int[RIDERS];
        private final boolean[] in = new boolean[RIDERS];
        private final Stage[] all = new Stage[STAGES];

        private Race() {
            for (int s = 0; s < STAGES; s++) {
                all[s] = new Stage();
            }
        }

        private void copyFrom(Race other) {
            teams = other.teams;
            riders = other.riders;
            stages = other.stages;
            open = other.open;
            gap = other.gap;
            zone = other.zone;
            System.arraycopy(other.teamOf, 0, teamOf, 0, RIDERS);
            System.arraycopy(other.age, 0, age, 0, RIDERS);
            System.arraycopy(other.in, 0, in, 0, RIDERS);
            for (int s = 0; s < stages; s++) {
                all[s].copyFrom(other.all[s]);
            }
        }

        private int addTeam() {
            if (teams >= TEAMS) {
                return NONE;
            }
            teams++;
            return teams - 1;
        }

        private int addRider(int team, int years) {
            if (riders >= RIDERS || !within(team, 0, teams - 1) || !within(years, LEAST_AGE, MOST_AGE)) {
                return NONE;
            }
            if (open && latestFinishers() > 0) {
                return NONE;
            }
            teamOf[riders] = team;
            age[riders] = years;
            in[riders] = true;
            riders++;
            return riders - 1;
        }

        private int openStage(int kind, int length) {
            if (stages >= STAGES || open || !within(kind, FLAT, TRIAL)) {
                return NONE;
            }
            if (!within(length, 1, MOST_LENGTH) || countIn() == 0) {
                return NONE;
            }
            all[stages].begin(kind, length);
            open = true;
            stages++;
            return stages - 1;
        }

        private int addMark(int km, int how) {
            return open ? all[stages - 1].course.addMark(km, how) : NONE;
        }

        private boolean addFinish(int rider, int tenths) {
            return open && isIn(rider) && all[stages - 1].addFinish(rider, tenths);
        }

        private int addCrossing(int mark, int rider) {
            return open && isIn(rider) ? all[stages - 1].course.addCrossing(mark, rider) : NONE;
        }

        private boolean addFall(int rider, int km, int with) {
            if (!open || !isIn(rider) || with == rider) {
                return false;
            }
            return (with == NONE || isIn(with)) && all[stages - 1].addFall(rider, km, with);
        }

        private int addJury(int rider, int seconds) {
            return open && isIn(rider) ? all[stages - 1].addJury(rider, seconds) : NONE;
        }

        private boolean addGrace(int rider) {
            return open && isIn(rider) && all[stages - 1].addGrace(rider);
        }

        private boolean dropRider(int rider) {
            if (!open || !isIn(rider)) {
                return false;
            }
            all[stages - 1].forget(rider);
            in[rider] = false;
            return true;
        }

        private boolean setGap(int tenths) {
            if (!within(tenths, 1, MOST_GAP)) {
                return false;
            }
            gap = tenths;
            return true;
        }

        private boolean setZone(int km) {
            if (!within(km, 0, MOST_ZONE)) {
                return false;
            }
            zone = km;
            return true;
        }

        private int closeStage() {
            if (!open || all[stages - 1].finishers == 0) {
                return NONE;
            }
            Stage stage = all[stages - 1];
            stage.rank();
            stage.split(gap);
            stage.takeTimes(zone);
            stage.judge();
            stage.prizes.awardOrder(stage);
            stage.prizes.awardMarks(stage);
            open = false;
            return sendOut(stage);
        }

        private int sendOut(Stage stage) {
            int gone = 0;
            for (int r = 0; r < riders; r++) {
                if (in[r] && stage.sendsOut(r)) {
                    in[r] = false;
                    gone++;
                }
            }
            return gone;
        }

        private boolean hasRider(int rider) {
            return within(rider, 0, riders - 1);
        }

        private boolean isIn(int rider) {
            return hasRider(rider) && in[rider];
        }

        private int countIn() {
            int n = 0;
            for (int r = 0; r < riders; r++) {
                if (in[r]) {
                    n++;
                }
            }
            return n;
        }

        private int closed() {
            return open ? stages - 1 : stages;
        }

        private Stage closedStage(int stage) {
            return within(stage, 0, closed() - 1) ? all[stage] : null;
        }

        private int latestMarks() {
            return stages == 0 ? 0 : all[stages - 1].course.marks;
        }

        private int latestFinishers() {
            return stages == 0 ? 0 : all[stages - 1].finishers;
        }

        private int latestLength() {
            return stages == 0 ? 0 : all[stages - 1].course.length;
        }

        /** What a RIDER got in all CLOSED STAGES, by the numbers of the call of(). */
        private int gained(int rider, int what) {
            int sum = 0;
            for (int s = 0; s < closed(); s++) {
                sum += all[s].gainedBy(rider, what);
            }
            return sum;
        }

        /** TOTAL, with one STAGE left out (or NONE). */
        private int sumOf(int rider, int leftOut) {
            int sum = 0;
            for (int s = 0; s < closed(); s++) {
                if (s != leftOut) {
                    sum += all[s].netTime(rider);
                }
            }
            return sum;
        }

        /** PLACES, with one STAGE left out (or NONE). */
        private int placesOf(int rider, int leftOut) {
            int sum = 0;
            for (int s = 0; s < closed(); s++) {
                if (s != leftOut) {
                    sum += all[s].placeOf(rider);
                }
            }
            return sum;
        }

        private boolean isRanked(int team) {
            if (closed() == 0 || !within(team, 0, teams - 1)) {
                return false;
            }
            int n = 0;
            for (int r = 0; r < riders; r++) {
                if (in[r] && teamOf[r] == team) {
                    n++;
                }
            }
            return n >= TEAM_TIMES;
        }

        private int teamSum(int team) {
            int sum = 0;
            for (int s = 0; s < closed(); s++) {
                sum += all[s].teamTime(teamOf, team);
            }
            return sum;
        }
    }

    /** The way of a STAGE: its MARKS, and who came over them. */
    private static final class Course {
        private int kind;
        private int length;
        private int marks;
        private final int[] km = new int[MARKS];
        private final int[] how = new int[MARKS];
        private final int[] crossed = new int[MARKS];
        private final int[] crossing = new int[MARKS * RIDERS];

        private void begin(int newKind, int newLength) {
            kind = newKind;
            length = newLength;
            marks = 0;
        }

        private void copyFrom(Course other) {
            kind = other.kind;
            length = other.length;
            marks = other.marks;
            System.arraycopy(other.km, 0, km, 0, MARKS);
            System.arraycopy(other.how, 0, how, 0, MARKS);
            System.arraycopy(other.crossed, 0, crossed, 0, MARKS);
            System.arraycopy(other.crossing, 0, crossing, 0, MARKS * RIDERS);
        }

        private int addMark(int newKm, int newHow) {
            if (marks >= MARKS || !within(newHow, SPRINT, MOST_CLASS)) {
                return NONE;
            }
            int behind = marks == 0 ? 0 : km[marks - 1];
            if (newKm <= behind || newKm >= length) {
                return NONE;
            }
            km[marks] = newKm;
            how[marks] = newHow;
            crossed[marks] = 0;
            marks++;
            return marks - 1;
        }

        private int addCrossing(int mark, int rider) {
            if (!within(mark, 0, marks - 1) || crossed[mark] >= RIDERS || hasCrossed(mark, rider)) {
                return NONE;
            }
            crossing[mark * RIDERS + crossed[mark]] = rider;
            crossed[mark]++;
            return crossed[mark];
        }

        private boolean hasCrossed(int mark, int rider) {
            for (int i = 0; i < crossed[mark]; i++) {
                if (crossing[mark * RIDERS + i] == rider) {
                    return true;
                }
            }
            return false;
        }

        private void forget(int rider) {
            for (int m = 0; m < marks; m++) {
                int left = 0;
                for (int i = 0; i < crossed[m]; i++) {
                    int other = crossing[m * RIDERS + i];
                    if (other != rider) {
                        crossing[m * RIDERS + left] = other;
                        left++;
                    }
                }
                crossed[m] = left;
            }
        }
    }

    /** What is told of a STAGE and, once it is CLOSED, what comes of it. */
    private static final class Stage {
        private static final int[] LIMIT_HUNDREDTHS = {7, 10, 15, 30};
        private static final int FREE_SPEED = 38;
        private static final int SPEED_STEP = 2;
        private static final int MOST_STEPS = 10;
        private static final int PARDON_SHARE = 5;
        /** Above every TIME there can be. */
        private static final int NEVER = 1000000;

        private final Course course = new Course();
        private final Prizes prizes = new Prizes();
        private final int[] finish = new int[RIDERS];
        private final int[] fallKm = new int[RIDERS];
        private final int[] fallWith = new int[RIDERS];
        private final int[] juried = new int[RIDERS];
        private final boolean[] graced = new boolean[RIDERS];
        private int finishers;

        private final int[] order = new int[RIDERS];
        private final int[] place = new int[RIDERS];
        private final int[] bunch = new int[RIDERS];
        private final int[] raw = new int[RIDERS];
        private final int[] time = new int[RIDERS];
        private final boolean[] late = new boolean[RIDERS];
        private int bunches;
        private int best;
        private int speed;
        private int limit;
        private int lateOnes;
        private boolean pardoned;

        private void begin(int kind, int length) {
            course.begin(kind, length);
            for (int r = 0; r < RIDERS; r++) {
                forget(r);
            }
            finishers = 0;
        }

        private void copyFrom(Stage other) {
            course.copyFrom(other.course);
            prizes.copyFrom(other.prizes);
            System.arraycopy(other.finish, 0, finish, 0, RIDERS);
            System.arraycopy(other.fallKm, 0, fallKm, 0, RIDERS);
            System.arraycopy(other.fallWith, 0, fallWith, 0, RIDERS);
            System.arraycopy(other.juried, 0, juried, 0, RIDERS);
            System.arraycopy(other.graced, 0, graced, 0, RIDERS);
            finishers = other.finishers;
            System.arraycopy(other.order, 0, order, 0, RIDERS);
            System.arraycopy(other.place, 0, place, 0, RIDERS);
            System.arraycopy(other.bunch, 0, bunch, 0, RIDERS);
            System.arraycopy(other.raw, 0, raw, 0, RIDERS);
            System.arraycopy(other.time, 0, time, 0, RIDERS);
            System.arraycopy(other.late, 0, late, 0, RIDERS);
            bunches = other.bunches;
            best = other.best;
            speed = other.speed;
            limit = other.limit;
            lateOnes = other.lateOnes;
            pardoned = other.pardoned;
        }

        private boolean addFinish(int rider, int tenths) {
            if (finish[rider] != 0 || !within(tenths, 1, MOST_FINISH)) {
                return false;
            }
            finish[rider] = tenths;
            finishers++;
            return true;
        }

        private boolean addFall(int rider, int km, int with) {
            if (fallKm[rider] != NONE || !within(km, 0, course.length)) {
                return false;
            }
            fallKm[rider] = km;
            fallWith[rider] = with;
            return true;
        }

        private int addJury(int rider, int seconds) {
            if (!within(seconds, 1, MOST_JURY) || juried[rider] + seconds > MOST_JURY_TOGETHER) {
                return NONE;
            }
            juried[rider] += seconds;
            return juried[rider];
        }

        private boolean addGrace(int rider) {
            if (graced[rider]) {
                return false;
            }
            graced[rider] = true;
            return true;
        }

        private void forget(int rider) {
            if (finish[rider] != 0) {
                finishers--;
            }
            finish[rider] = 0;
            fallKm[rider] = NONE;
            fallWith[rider] = NONE;
            juried[rider] = 0;
            graced[rider] = false;
            course.forget(rider);
        }

        private void rank() {
            int n = 0;
            for (int r = 0; r < RIDERS; r++) {
                if (finish[r] == 0) {
                    continue;
                }
                int at = n;
                for (; at > 0 && finish[order[at - 1]] > finish[r]; at--) {
                    order[at] = order[at - 1];
                }
                order[at] = r;
                n++;
            }
            for (int i = 0; i < n; i++) {
                place[order[i]] = i + 1;
            }
        }

        /** Whether the i-th of the ORDER has the one ahead of him outside his BUNCH. */
        private boolean beginsBunch(int i, int gap) {
            return i == 0 || course.kind == TRIAL || space(i) >= gap;
        }

        private int space(int i) {
            return finish[order[i]] - finish[order[i - 1]];
        }

        private void split(int gap) {
            bunches = 0;
            int first = order[0];
            for (int i = 0; i < finishers; i++) {
                int rider = order[i];
                if (beginsBunch(i, gap)) {
                    bunches++;
                    first = rider;
                }
                bunch[rider] = bunches - 1;
                raw[rider] = finish[first] / 10;
            }
        }

        private void takeTimes(int zone) {
            best = NEVER;
            for (int i = 0; i < finishers; i++) {
                int rider = order[i];
                time[rider] = leastRaw(rider, zone);
                best = Math.min(best, time[rider]);
            }
        }

        /**
         * The chain ends at one without a FINISH: he is not come to, so his own MISHAP leads nowhere.
         * As many steps as there are RIDERS come to everybody before one is come to again.
         */
        private int leastRaw(int rider, int zone) {
            int least = raw[rider];
            int at = rider;
            for (int step = 0; step < RIDERS && fallCounts(at, zone) && hasFinish(fallWith[at]); step++) {
                at = fallWith[at];
                least = Math.min(least, raw[at]);
            }
            return least;
        }

        private boolean hasFinish(int rider) {
            return within(rider, 0, RIDERS - 1) && finish[rider] != 0;
        }

        private boolean fallCounts(int rider, int zone) {
            boolean kindCounts = course.kind == FLAT || course.kind == HILLS;
            return kindCounts && fallKm[rider] != NONE && fallKm[rider] <= zone;
        }

        private void judge() {
            speed = course.length * 3600 / Math.max(best, 1);
            int steps = Math.min(Math.max((speed - FREE_SPEED) / SPEED_STEP, 0), MOST_STEPS);
            limit = best + best * (LIMIT_HUNDREDTHS[course.kind] + steps) / 100;
            lateOnes = 0;
            for (int r = 0; r < RIDERS; r++) {
                late[r] = finish[r] != 0 && time[r] > limit && !graced[r];
                if (late[r]) {
                    lateOnes++;
                }
            }
            pardoned = lateOnes * PARDON_SHARE > finishers;
        }

        private boolean sendsOut(int rider) {
            return finish[rider] == 0 || late[rider] && !pardoned;
        }

        private int fact(int what) {
            switch (what) {
                case 0: return course.kind;
                case 1: return course.length;
                case 2: return finishers;
                case 3: return bunches;
                case 4: return best;
                case 5: return speed;
                case 6: return limit;
                case 7: return lateOnes;
                case 8: return pardoned ? 1 : 0;
                case 9: return countHelped();
                case 10: return sumHelped();
                default: return NONE;
            }
        }

        private int countHelped() {
            int n = 0;
            for (int i = 0; i < finishers; i++) {
                if (time[order[i]] < raw[order[i]]) {
                    n++;
                }
            }
            return n;
        }

        private int sumHelped() {
            int sum = 0;
            for (int i = 0; i < finishers; i++) {
                sum += raw[order[i]] - time[order[i]];
            }
            return sum;
        }

        private int resultOf(int rider, int what) {
            switch (what) {
                case 0: return finish[rider];
                case 1: return raw[rider];
                case 2: return time[rider];
                case 3: return bunch[rider];
                case 4: return place[rider];
                case 5: return prizes.bonus[rider];
                case 6: return prizes.points[rider];
                case 7: return prizes.dots[rider];
                default: return NONE;
            }
        }

        private int countBunches(int gap) {
            int n = 0;
            for (int i = 0; i < finishers; i++) {
                if (beginsBunch(i, gap)) {
                    n++;
                }
            }
            return n;
        }

        private int joiningGap() {
            if (course.kind == TRIAL && finishers > 1) {
                return NONE;
            }
            int least = 1;
            for (int i = 1; i < finishers; i++) {
                least = Math.max(least, space(i) + 1);
            }
            return least <= MOST_GAP ? least : NONE;
        }

        private int aheadOfWidest() {
            int widest = NONE;
            int riders = NONE;
            for (int i = 1; i < finishers; i++) {
                if (space(i) > widest) {
                    widest = space(i);
                    riders = i;
                }
            }
            return riders;
        }

        private int gainedBy(int rider, int what) {
            switch (what) {
                case OF_POINTS: return prizes.points[rider];
                case OF_DOTS: return prizes.dots[rider];
                case OF_BONUS: return prizes.bonus[rider];
                case OF_JURY: return juried[rider];
                default: return 0;
            }
        }

        /** Of one that is IN: without a FINISH he was told behind this STAGE. */
        private int netTime(int rider) {
            return finish[rider] == 0 ? limit : time[rider] + juried[rider] - prizes.bonus[rider];
        }

        private int placeOf(int rider) {
            return finish[rider] == 0 ? PLACE_WITHOUT : place[rider];
        }

        private int teamTime(int[] teamOf, int team) {
            int n = 0;
            int first = NEVER;
            int second = NEVER;
            int third = NEVER;
            for (int i = 0; i < finishers; i++) {
                if (teamOf[order[i]] != team) {
                    continue;
                }
                n++;
                int t = time[order[i]];
                third = Math.min(third, Math.max(second, t));
                second = Math.min(second, Math.max(first, t));
                first = Math.min(first, t);
            }
            return n < TEAM_TIMES ? TEAM_TIMES * limit : first + second + third;
        }
    }

    /** BONUS, POINTS and DOTS of one STAGE. */
    private static final class Prizes {
        private static final int[] ORDER_BONUS = {10, 6, 4};
        private static final int[] ORDER_POINTS = {
            25, 20, 16, 13, 10,
            15, 12, 9, 7, 5,
            10, 8, 6, 4, 2,
            10, 8, 6, 4, 2};
        private static final int POINTS_PLACES = 5;
        private static final int[] SPRINT_BONUS = {3, 2, 1};
        private static final int[] SPRINT_POINTS = {10, 7, 4, 2};
        private static final int[] CLIMB_DOTS = {
            10, 8, 6, 4,
            5, 3, 2, 1,
            2, 1, 0, 0,
            1, 0, 0, 0};
        private static final int DOTS_PLACES = 4;

        private final int[] bonus = new int[RIDERS];
        private final int[] points = new int[RIDERS];
        private final int[] dots = new int[RIDERS];

        private void copyFrom(Prizes other) {
            System.arraycopy(other.bonus, 0, bonus, 0, RIDERS);
            System.arraycopy(other.points, 0, points, 0, RIDERS);
            System.arraycopy(other.dots, 0, dots, 0, RIDERS);
        }

        /** The first award: what stood here of another STAGE (before going back) is wiped. */
        private void awardOrder(Stage stage) {
            for (int r = 0; r < RIDERS; r++) {
                bonus[r] = 0;
                points[r] = 0;
                dots[r] = 0;
            }
            int kind = stage.course.kind;
            for (int i = 0; i < stage.finishers; i++) {
                int rider = stage.order[i];
                if (i < ORDER_BONUS.length && kind != TRIAL) {
                    bonus[rider] += ORDER_BONUS[i];
                }
                if (i < POINTS_PLACES && !stage.late[rider]) {
                    points[rider] += ORDER_POINTS[kind * POINTS_PLACES + i];
                }
            }
        }

        private void awardMarks(Stage stage) {
            Course course = stage.course;
            for (int m = 0; m < course.marks; m++) {
                int i = 0;
                for (int c = 0; c < course.crossed[m]; c++) {
                    int rider = course.crossing[m * RIDERS + c];
                    if (stage.finish[rider] != 0) {
                        awardOver(course.how[m], i, rider, stage.late[rider]);
                        i++;
                    }
                }
            }
        }

        private void awardOver(int how, int i, int rider, boolean late) {
            if (how != SPRINT) {
                if (i < DOTS_PLACES && !late) {
                    dots[rider] += CLIMB_DOTS[(how - 1) * DOTS_PLACES + i];
                }
                return;
            }
            if (i < SPRINT_BONUS.length) {
                bonus[rider] += SPRINT_BONUS[i];
            }
            if (i < SPRINT_POINTS.length && !late) {
                points[rider] += SPRINT_POINTS[i];
            }
        }
    }

    /** The rows in which LISTS are ranked, used again by each call. */
    private static final class Standings {
        private final int[] order = new int[RIDERS];
        private final int[] sums = new int[RIDERS];
        private final int[] places = new int[RIDERS];
        private final int[] worth = new int[RIDERS];
        private int size;

        private int entry(int i) {
            return within(i, 0, size - 1) ? order[i] : NONE;
        }

        private void rankList(Race race, int list) {
            size = 0;
            if (race.closed() == 0) {
                return;
            }
            switch (list) {
                case GENERAL_LIST:
                    rankRiders(race, NONE, MOST_AGE);
                    break;
                case POINTS_LIST:
                    rankWorthy(race, OF_POINTS);
                    break;
                case DOTS_LIST:
                    rankWorthy(race, OF_DOTS);
                    break;
                case YOUNG_LIST:
                    rankRiders(race, NONE, YOUNG_AGE);
                    break;
                case TEAMS_LIST:
                    rankTeams(race);
                    break;
                default:
                    break;
            }
        }

        /** As GENERAL, of those up to an AGE, with one STAGE left out (or NONE). */
        private void rankRiders(Race race, int leftOut, int oldest) {
            size = 0;
            for (int r = 0; r < race.riders; r++) {
                if (race.in[r] && race.age[r] <= oldest) {
                    sums[r] = race.sumOf(r, leftOut);
                    places[r] = race.placesOf(r, leftOut);
                    insert(r);
                }
            }
        }

        private void rankTeams(Race race) {
            for (int t = 0; t < race.teams; t++) {
                if (race.isRanked(t)) {
                    sums[t] = race.teamSum(t);
                    places[t] = 0;
                    insert(t);
                }
            }
        }

        /** Each comes in by rising number, so that of like ones the least number stays ahead. */
        private void insert(int newcomer) {
            int at = size;
            for (; at > 0 && isLess(newcomer, order[at - 1]); at--) {
                order[at] = order[at - 1];
            }
            order[at] = newcomer;
            size++;
        }

        private boolean isLess(int one, int other) {
            if (sums[one] != sums[other]) {
                return sums[one] < sums[other];
            }
            return places[one] < places[other];
        }

        private void rankWorthy(Race race, int what) {
            rankRiders(race, NONE, MOST_AGE);
            int left = 0;
            for (int i = 0; i < size; i++) {
                int rider = order[i];
                worth[rider] = race.gained(rider, what);
                if (worth[rider] < 1) {
                    continue;
                }
                int at = left;
                for (; at > 0 && worth[order[at - 1]] < worth[rider]; at--) {
                    order[at] = order[at - 1];
                }
                order[at] = rider;
                left++;
            }
            size = left;
        }

        private int wearer(Race race, int jersey) {
            int wearing = 0;
            int who = NONE;
            for (int j = 0; j <= jersey; j++) {
                rankList(race, j);
                who = firstBut(wearing);
                if (who != NONE) {
                    wearing |= 1 << who;
                }
            }
            return who;
        }

        private int firstBut(int wearing) {
            for (int i = 0; i < size; i++) {
                if ((wearing >> order[i] & 1) == 0) {
                    return order[i];
                }
            }
            return NONE;
        }

        /** Only the first matters: who is ahead of him is ahead of all. */
        private int lacking(int rider) {
            int first = entry(0);
            if (first == NONE || first == rider) {
                return 0;
            }
            int behind = sums[rider] - sums[first];
            boolean wins = places[rider] < places[first] || places[rider] == places[first] && rider < first;
            return wins ? behind : behind + 1;
        }
    }

    /** Riders ahead of others; all is reckoned in whole numbers, so that no rest is lost on the way. */
    private static final class Breakaway {
        private static final long HOUR = 3600;

        private static boolean canBe(int a, int km, int b) {
            return within(a, 1, RIDERS) && within(km, 1, MOST_LENGTH) && within(b, 1, RIDERS);
        }

        private static long pace(int riders) {
            return 40000 + 6000 * (riders - 1) / Math.max(riders, 1);
        }

        private static int metresLeft(int a, int seconds, int km, int b) {
            long ours = pace(a);
            long theirs = pace(b);
            if (theirs <= ours) {
                return NONE;
            }
            long scale = HOUR * (theirs - ours);
            long left = km * 1000L * scale - ours * theirs * seconds;
            return left < 0 ? NONE : (int) (left / scale);
        }

        private static int leastAhead(int a, int km, int b) {
            long ours = pace(a);
            long theirs = pace(b);
            if (theirs <= ours) {
                return 0;
            }
            long seconds = km * 1000L * HOUR * (theirs - ours) / (ours * theirs) + 1;
            return seconds <= MOST_AHEAD ? (int) seconds : NONE;
        }
    }

    /**
     * The bytes that are fed, taken TOKEN by TOKEN once they are told. After a FAULT nothing is
     * taken any more: each take answers as if it had failed.
     */
    private static final class Tape {
        private static final int END = 0;
        private static final int WORD = 1;
        private static final int INT = 2;
        private static final int SEMICOLON = 3;
        private static final int BLANK = 4;
        private static final int WRONG = 5;

        private static final int CANNOT_STAND = 1;
        private static final int OUT_OF_BOUNDS = 2;
        private static final int CANNOT_BE_DONE = 3;
        private static final int PLACE_SCALE = 8;
        private static final int MOST_DIGITS = 6;

        private final byte[] bytes = new byte[TAPE_BYTES];
        private int length;
        private int token;
        private int start;
        private int next;
        private int fault;

        private void putFour(int number) {
            for (int shift = 24; shift >= 0 && length < TAPE_BYTES; shift -= 8) {
                bytes[length] = (byte) (number >> shift);
                length++;
            }
        }

        private void begin() {
            fault = 0;
            next = 0;
            advance();
        }

        private boolean hasMore() {
            return fault == 0 && token != END;
        }

        private boolean hasInt() {
            return fault == 0 && token == INT;
        }

        private boolean takes(String word) {
            if (fault != 0 || token != WORD || next - start != word.length()) {
                return false;
            }
            for (int i = 0; i < word.length(); i++) {
                if (bytes[start + i] != word.charAt(i)) {
                    return false;
                }
            }
            advance();
            return true;
        }

        private int takeInt(int least, int most) {
            if (fault != 0 || token != INT) {
                return cannotStand();
            }
            int value = 0;
            for (int i = start; i < next; i++) {
                value = value * 10 + (bytes[i] - '0');
            }
            if (!within(value, least, most)) {
                fault = OUT_OF_BOUNDS + PLACE_SCALE * start;
                return NONE;
            }
            advance();
            return value;
        }

        /** What could not be done is a FAULT only now that the STATEMENT stands whole. */
        private void endStatement(int word, boolean done) {
            if (fault != 0 || token != SEMICOLON) {
                cannotStand();
            } else if (!done) {
                fault = CANNOT_BE_DONE + PLACE_SCALE * word;
            } else {
                advance();
            }
        }

        private int cannotStand() {
            if (fault == 0) {
                fault = CANNOT_STAND + PLACE_SCALE * start;
            }
            return NONE;
        }

        private void advance() {
            while (next < length && kindAt(next) == BLANK) {
                next++;
            }
            start = next;
            token = kindAt(start);
            if (token == SEMICOLON) {
                next++;
            } else if (token == WORD || token == INT) {
                while (next < length && kindAt(next) == token) {
                    next++;
                }
            }
            if (token == INT && next - start > MOST_DIGITS) {
                token = WRONG;
            }
        }

        /** The kind of TOKEN that a byte is of. */
        private int kindAt(int i) {
            if (i >= length) {
                return END;
            }
            byte b = bytes[i];
            if (b == 32 || b == 10) {
                return BLANK;
            }
            if (b >= 'a' && b <= 'z') {
                return WORD;
            }
            if (b >= '0' && b <= '9') {
                return INT;
            }
            return b == ';' ? SEMICOLON : WRONG;
        }
    }

    /**
     * Tells the STATEMENTS of a tape to a race, each with the answer whether all of it was done.
     * What is done in spite of a FAULT means nothing, for all goes back to what it was.
     */
    private static final class Teller {

        private static boolean tellStatement(Race race, Tape tape) {
            if (tape.takes("team")) {
                return race.addTeam() != NONE;
            }
            if (tape.takes("rider")) {
                return tellRider(race, tape);
            }
            if (tape.takes("stage")) {
                return tellStage(race, tape);
            }
            if (tape.takes("come")) {
                return tellFinishes(race, tape);
            }
            if (tape.takes("over")) {
                return tellCrossings(race, tape);
            }
            if (tape.takes("fall")) {
                return tellFall(race, tape);
            }
            if (tape.takes("jury")) {
                return tellJury(race, tape);
            }
            if (tape.takes("grace")) {
                return race.addGrace(takeRider(race, tape));
            }
            if (tape.takes("quit")) {
                return race.dropRider(takeRider(race, tape));
            }
            if (tape.takes("gap")) {
                return race.setGap(tape.takeInt(1, MOST_GAP));
            }
            if (tape.takes("zone")) {
                return race.setZone(tape.takeInt(0, MOST_ZONE));
            }
            if (tape.takes("close")) {
                return race.closeStage() != NONE;
            }
            tape.cannotStand();
            return false;
        }

        private static boolean tellRider(Race race, Tape tape) {
            int team = tape.takeInt(0, race.teams - 1);
            int age = tape.takeInt(LEAST_AGE, MOST_AGE);
            return race.addRider(team, age) != NONE;
        }

        private static boolean tellStage(Race race, Tape tape) {
            int kind = takeKind(tape);
            int length = tape.takeInt(1, MOST_LENGTH);
            boolean done = race.openStage(kind, length) != NONE;
            int leastKm = 1;
            for (int n = 0; n < TAPE_BYTES && tape.takes("at"); n++) {
                int km = tape.takeInt(leastKm, length - 1);
                int how = takeHow(tape);
                done = race.addMark(km, how) != NONE && done;
                leastKm = km + 1;
            }
            return done;
        }

        private static int takeKind(Tape tape) {
            if (tape.takes("flat")) {
                return FLAT;
            }
            if (tape.takes("hills")) {
                return HILLS;
            }
            if (tape.takes("peaks")) {
                return PEAKS;
            }
            return tape.takes("trial") ? TRIAL : tape.cannotStand();
        }

        private static int takeHow(Tape tape) {
            if (tape.takes("sprint")) {
                return SPRINT;
            }
            return tape.takes("climb") ? tape.takeInt(1, MOST_CLASS) : tape.cannotStand();
        }

        private static boolean tellFinishes(Race race, Tape tape) {
            boolean done = true;
            for (int n = 0; n < TAPE_BYTES && tape.hasInt(); n++) {
                int rider = takeRider(race, tape);
                int tenths = tape.takeInt(1, MOST_FINISH);
                done = race.addFinish(rider, tenths) && done;
            }
            return done;
        }

        private static boolean tellCrossings(Race race, Tape tape) {
            int mark = tape.takeInt(0, race.latestMarks() - 1);
            boolean done = true;
            for (int n = 0; n < TAPE_BYTES && tape.hasInt(); n++) {
                done = race.addCrossing(mark, takeRider(race, tape)) != NONE && done;
            }
            return done;
        }

        private static boolean tellFall(Race race, Tape tape) {
            int rider = takeRider(race, tape);
            int km = tape.takeInt(0, race.latestLength());
            int with = tape.takes("with") ? takeRider(race, tape) : NONE;
            return race.addFall(rider, km, with);
        }

        private static boolean tellJury(Race race, Tape tape) {
            int rider = takeRider(race, tape);
            int seconds = tape.takeInt(1, MOST_JURY);
            return race.addJury(rider, seconds) != NONE;
        }

        private static int takeRider(Race race, Tape tape) {
            return tape.takeInt(0, race.riders - 1);
        }
    }
}
