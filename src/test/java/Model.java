import java.math.BigInteger;
import java.util.ArrayList;
import java.util.Comparator;
import java.util.HashMap;
import java.util.HashSet;
import java.util.List;
import java.util.Map;
import java.util.NoSuchElementException;
import java.util.Set;
import java.util.TreeMap;
import java.util.TreeSet;
import java.util.function.BooleanSupplier;
import java.util.function.IntPredicate;
import java.util.regex.Matcher;
import java.util.regex.Pattern;
import java.util.stream.Collectors;
import java.util.stream.IntStream;

/**
 * The document once more, written another way: it holds only what was told and reckons every
 * answer anew. ModelTest runs it beside the class.
 */
final class Model {
    static final int NONE = -1;

    private static final class Rider {
        int team;
        int age;
        boolean in = true;
    }

    private static final class Stage {
        int kind;
        int length;
        boolean closed;
        int gap;
        int zone;
        final List<int[]> marks = new ArrayList<>();
        final List<List<Integer>> over = new ArrayList<>();
        final TreeMap<Integer, Integer> finish = new TreeMap<>();
        final Map<Integer, int[]> fall = new HashMap<>();
        final Map<Integer, Integer> jury = new HashMap<>();
        final Set<Integer> grace = new HashSet<>();

        Stage copy() {
            Stage c = new Stage();
            c.kind = kind;
            c.length = length;
            c.closed = closed;
            c.gap = gap;
            c.zone = zone;
            c.marks.addAll(marks);
            over.forEach(o -> c.over.add(new ArrayList<>(o)));
            c.finish.putAll(finish);
            c.fall.putAll(fall);
            c.jury.putAll(jury);
            c.grace.addAll(grace);
            return c;
        }

        List<Integer> order() {
            List<Integer> o = new ArrayList<>(finish.keySet());
            o.sort(Comparator.comparingInt((Integer r) -> finish.get(r)).thenComparingInt(r -> r));
            return o;
        }

        List<List<Integer>> bunches(int by) {
            List<List<Integer>> all = new ArrayList<>();
            int last = 0;
            for (int r : order()) {
                if (all.isEmpty() || kind == 3 || finish.get(r) - last >= by) {
                    all.add(new ArrayList<>());
                }
                all.get(all.size() - 1).add(r);
                last = finish.get(r);
            }
            return all;
        }

        int bunch(int r) {
            List<List<Integer>> b = bunches(gap);
            return IntStream.range(0, b.size()).filter(i -> b.get(i).contains(r)).findFirst().getAsInt();
        }

        int raw(int r) {
            return finish.get(bunches(gap).get(bunch(r)).get(0)) / 10;
        }

        int time(int r) {
            Set<Integer> chain = new TreeSet<>();
            follow(r, chain);
            return chain.stream().mapToInt(this::raw).min().getAsInt();
        }

        private void follow(int r, Set<Integer> chain) {
            if (!finish.containsKey(r) || !chain.add(r)) {
                return;
            }
            int[] f = fall.get(r);
            if (f != null && kind <= 1 && f[0] <= zone) {
                follow(f[1], chain);
            }
        }

        int best() {
            return finish.keySet().stream().mapToInt(this::time).min().getAsInt();
        }

        int speed() {
            return length * 3600 / (best() == 0 ? 1 : best());
        }

        int limit() {
            int per = List.of(7, 10, 15, 30).get(kind);
            for (int above = 40, n = 0; n < 10 && above <= speed(); above += 2, n++) {
                per++;
            }
            return best() + best() * per / 100;
        }

        Set<Integer> late() {
            int limit = limit();
            return finish.keySet().stream().filter(r -> time(r) > limit && !grace.contains(r)).collect(Collectors.toSet());
        }

        boolean pardoned() {
            return 5 * late().size() > finish.size();
        }

        private int shared(List<Integer> row, int r, int... prizes) {
            int i = row.indexOf(r);
            return i >= 0 && i < prizes.length ? prizes[i] : 0;
        }

        private List<Integer> placesOver(int mark) {
            return over.get(mark).stream().filter(finish::containsKey).collect(Collectors.toList());
        }

        int bonus(int r) {
            int sum = kind == 3 ? 0 : shared(order(), r, 10, 6, 4);
            for (int m = 0; m < marks.size(); m++) {
                sum += marks.get(m)[1] == 0 ? shared(placesOver(m), r, 3, 2, 1) : 0;
            }
            return sum;
        }

        int points(int r) {
            if (late().contains(r)) {
                return 0;
            }
            int sum = kind == 0 ? shared(order(), r, 25, 20, 16, 13, 10)
                : kind == 1 ? shared(order(), r, 15, 12, 9, 7, 5) : shared(order(), r, 10, 8, 6, 4, 2);
            for (int m = 0; m < marks.size(); m++) {
                sum += marks.get(m)[1] == 0 ? shared(placesOver(m), r, 10, 7, 4, 2) : 0;
            }
            return sum;
        }

        int dots(int r) {
            if (late().contains(r)) {
                return 0;
            }
            int sum = 0;
            for (int m = 0; m < marks.size(); m++) {
                switch (marks.get(m)[1]) {
                    case 1 -> sum += shared(placesOver(m), r, 10, 8, 6, 4);
                    case 2 -> sum += shared(placesOver(m), r, 5, 3, 2, 1);
                    case 3 -> sum += shared(placesOver(m), r, 2, 1);
                    case 4 -> sum += shared(placesOver(m), r, 1);
                    default -> { }
                }
            }
            return sum;
        }
    }

    private int teams;
    private int gap = 10;
    private int zone = 3;
    private List<Rider> riders = new ArrayList<>();
    private List<Stage> stages = new ArrayList<>();
    private final Model[] kept = new Model[2];
    private byte[] tape = new byte[0];
    private int fault;

    private void takeOver(Model m) {
        teams = m.teams;
        gap = m.gap;
        zone = m.zone;
        riders = new ArrayList<>();
        for (Rider r : m.riders) {
            Rider c = new Rider();
            c.team = r.team;
            c.age = r.age;
            c.in = r.in;
            riders.add(c);
        }
        stages = m.stages.stream().map(Stage::copy).collect(Collectors.toCollection(ArrayList::new));
    }

    private Stage open() {
        return stages.isEmpty() || stages.get(stages.size() - 1).closed ? null : stages.get(stages.size() - 1);
    }

    private boolean in(int r) {
        return r >= 0 && r < riders.size() && riders.get(r).in;
    }

    private List<Stage> closed() {
        return stages.stream().filter(s -> s.closed).collect(Collectors.toList());
    }

    private Stage closed(int s) {
        return s >= 0 && s < closed().size() ? stages.get(s) : null;
    }

    int feed(int... five) {
        if (tape.length > 580) {
            return NONE;
        }
        byte[] longer = java.util.Arrays.copyOf(tape, tape.length + 20);
        for (int i = 0; i < 20; i++) {
            longer[tape.length + i] = BigInteger.valueOf(five[i / 4]).shiftRight(8 * (3 - i % 4)).byteValue();
        }
        tape = longer;
        return tape.length;
    }

    boolean end(int n) {
        if (n < 0 || n > tape.length) {
            return false;
        }
        tape = java.util.Arrays.copyOf(tape, n);
        return true;
    }

    int team() {
        return teams == 6 ? NONE : teams++;
    }

    int rider(int team, int age) {
        boolean can = riders.size() < 16 && team >= 0 && team < teams && age >= 16 && age <= 50
            && (open() == null || open().finish.isEmpty());
        if (!can) {
            return NONE;
        }
        Rider r = new Rider();
        r.team = team;
        r.age = age;
        riders.add(r);
        return riders.size() - 1;
    }

    int stage(int kind, int length) {
        boolean can = stages.size() < 8 && open() == null && kind >= 0 && kind <= 3 && length >= 1 && length <= 300
            && riders.stream().anyMatch(r -> r.in);
        if (!can) {
            return NONE;
        }
        Stage s = new Stage();
        s.kind = kind;
        s.length = length;
        stages.add(s);
        return stages.size() - 1;
    }

    int mark(int km, int how) {
        Stage s = open();
        if (s == null || s.marks.size() == 6 || km < 1 || km >= s.length || how < 0 || how > 4) {
            return NONE;
        }
        if (s.marks.stream().anyMatch(m -> m[0] >= km)) {
            return NONE;
        }
        s.marks.add(new int[] {km, how});
        s.over.add(new ArrayList<>());
        return s.marks.size() - 1;
    }

    boolean finish(int r, int tenths) {
        Stage s = open();
        return s != null && in(r) && tenths >= 1 && tenths <= 999999 && s.finish.putIfAbsent(r, tenths) == null;
    }

    int over(int mark, int r) {
        Stage s = open();
        if (s == null || !in(r) || mark < 0 || mark >= s.marks.size() || s.over.get(mark).contains(r)) {
            return NONE;
        }
        s.over.get(mark).add(r);
        return s.over.get(mark).size();
    }

    boolean fall(int r, int km, int with) {
        Stage s = open();
        return s != null && in(r) && km >= 0 && km <= s.length && with != r && (with == NONE || in(with))
            && s.fall.putIfAbsent(r, new int[] {km, with}) == null;
    }

    int jury(int r, int seconds) {
        Stage s = open();
        if (s == null || !in(r) || seconds < 1 || seconds > 3600 || s.jury.getOrDefault(r, 0) + seconds > 99999) {
            return NONE;
        }
        return s.jury.merge(r, seconds, Integer::sum);
    }

    boolean grace(int r) {
        return open() != null && in(r) && open().grace.add(r);
    }

    boolean quit(int r) {
        Stage s = open();
        if (s == null || !in(r)) {
            return false;
        }
        s.finish.remove(r);
        s.fall.remove(r);
        s.jury.remove(r);
        s.grace.remove(r);
        s.over.forEach(o -> o.remove((Integer) r));
        riders.get(r).in = false;
        return true;
    }

    boolean rule(int what, int v) {
        if (what == 0 && v >= 1 && v <= 99 && v != gap) {
            gap = v;
            return true;
        }
        if (what == 1 && v >= 0 && v <= 9 && v != zone) {
            zone = v;
            return true;
        }
        return false;
    }

    int close() {
        Stage s = open();
        if (s == null || s.finish.isEmpty()) {
            return NONE;
        }
        s.gap = gap;
        s.zone = zone;
        s.closed = true;
        int before = count(2);
        Set<Integer> late = s.late();
        boolean pardoned = s.pardoned();
        for (int r = 0; r < riders.size(); r++) {
            if (!s.finish.containsKey(r) || late.contains(r) && !pardoned) {
                riders.get(r).in = false;
            }
        }
        return before - count(2);
    }

    boolean keep(int slot) {
        if (slot != 0 && slot != 1) {
            return false;
        }
        kept[slot] = new Model();
        kept[slot].takeOver(this);
        return true;
    }

    boolean back(int slot) {
        if (slot != 0 && slot != 1 || kept[slot] == null) {
            return false;
        }
        takeOver(kept[slot]);
        return true;
    }

    int count(int what) {
        Stage latest = stages.isEmpty() ? new Stage() : stages.get(stages.size() - 1);
        List<Integer> all = List.of(teams, riders.size(), (int) riders.stream().filter(r -> r.in).count(), stages.size(),
            closed().size(), latest.marks.size(), latest.finish.size(), gap, zone, tape.length);
        return what >= 0 && what < 10 ? all.get(what) : NONE;
    }

    int of(int r, int what) {
        if (r < 0 || r >= riders.size() || what < 0 || what > 6) {
            throw new NoSuchElementException();
        }
        switch (what) {
            case 0: return riders.get(r).team;
            case 1: return riders.get(r).age;
            case 2: return riders.get(r).in ? 1 : 0;
            case 3: return closed().stream().mapToInt(s -> s.points(r)).sum();
            case 4: return closed().stream().mapToInt(s -> s.dots(r)).sum();
            case 5: return closed().stream().mapToInt(s -> s.bonus(r)).sum();
            default: return closed().stream().mapToInt(s -> s.jury.getOrDefault(r, 0)).sum();
        }
    }

    int told(int stage, int what) {
        Stage s = closed(stage);
        if (s == null) {
            return NONE;
        }
        switch (what) {
            case 0: return s.kind;
            case 1: return s.length;
            case 2: return s.finish.size();
            case 3: return s.bunches(s.gap).size();
            case 4: return s.best();
            case 5: return s.speed();
            case 6: return s.limit();
            case 7: return s.late().size();
            case 8: return s.pardoned() ? 1 : 0;
            case 9: return (int) s.finish.keySet().stream().filter(r -> s.time(r) < s.raw(r)).count();
            case 10: return s.finish.keySet().stream().mapToInt(r -> s.raw(r) - s.time(r)).sum();
            default: return NONE;
        }
    }

    int order(int stage, int i) {
        Stage s = closed(stage);
        return s == null || i < 0 || i >= s.finish.size() ? NONE : s.order().get(i);
    }

    int result(int stage, int r, int what) {
        Stage s = closed(stage);
        if (s == null || !s.finish.containsKey(r)) {
            return NONE;
        }
        switch (what) {
            case 0: return s.finish.get(r);
            case 1: return s.raw(r);
            case 2: return s.time(r);
            case 3: return s.bunch(r);
            case 4: return s.order().indexOf(r) + 1;
            case 5: return s.bonus(r);
            case 6: return s.points(r);
            case 7: return s.dots(r);
            default: return NONE;
        }
    }

    int parted(int stage, int by) {
        Stage s = closed(stage);
        return s == null || by < 1 || by > 99 ? NONE : s.bunches(by).size();
    }

    int together(int stage) {
        return closed(stage) == null ? NONE : first(1, 99, g -> parted(stage, g) == 1);
    }

    private static int first(int from, int to, IntPredicate is) {
        return IntStream.rangeClosed(from, to).filter(is).findFirst().orElse(NONE);
    }

    int escaped(int stage) {
        Stage s = closed(stage);
        if (s == null || s.finish.size() < 2) {
            return NONE;
        }
        List<Integer> f = s.finish.values().stream().sorted().collect(Collectors.toList());
        int widest = IntStream.range(1, f.size()).map(i -> f.get(i) - f.get(i - 1)).max().getAsInt();
        return first(1, f.size() - 1, i -> f.get(i) - f.get(i - 1) == widest);
    }

    private int total(int r, Stage but) {
        return closed().stream().filter(s -> s != but).mapToInt(s -> s.finish.containsKey(r)
            ? s.time(r) + s.jury.getOrDefault(r, 0) - s.bonus(r) : s.limit()).sum();
    }

    private int places(int r, Stage but) {
        return closed().stream().filter(s -> s != but).mapToInt(s -> s.finish.containsKey(r)
            ? s.order().indexOf(r) + 1 : 99).sum();
    }

    private List<Integer> general(Stage but) {
        Map<Integer, int[]> keys = new HashMap<>();
        IntStream.range(0, riders.size()).filter(this::in).forEach(r -> keys.put(r, new int[] {total(r, but), places(r, but)}));
        List<Integer> all = new ArrayList<>(keys.keySet());
        all.sort(Comparator.comparingInt((Integer r) -> keys.get(r)[0]).thenComparingInt(r -> keys.get(r)[1])
            .thenComparingInt(r -> r));
        return all;
    }

    private int teamTotal(int t) {
        int sum = 0;
        for (Stage s : closed()) {
            List<Integer> times = s.finish.keySet().stream().filter(r -> riders.get(r).team == t).map(s::time).sorted()
                .collect(Collectors.toList());
            sum += times.size() < 3 ? 3 * s.limit() : times.get(0) + times.get(1) + times.get(2);
        }
        return sum;
    }

    private List<Integer> listed(int list) {
        if (closed().isEmpty() || list < 0 || list > 4) {
            return List.of();
        }
        if (list == 4) {
            return IntStream.range(0, teams).boxed()
                .filter(t -> riders.stream().filter(r -> r.in && r.team == t).count() >= 3)
                .sorted(Comparator.comparingInt(this::teamTotal)).collect(Collectors.toList());
        }
        List<Integer> all = general(null);
        if (list == 3) {
            all.removeIf(r -> riders.get(r).age > 25);
        }
        if (list == 1 || list == 2) {
            Map<Integer, Integer> worth = new HashMap<>();
            all.forEach(r -> worth.put(r, of(r, 2 + list)));
            all.removeIf(r -> worth.get(r) == 0);
            all.sort(Comparator.comparingInt(r -> -worth.get(r)));
        }
        return all;
    }

    int list(int list, int i) {
        List<Integer> l = listed(list);
        return i < 0 || i >= l.size() ? NONE : l.get(i);
    }

    int total(int which, boolean team) {
        if (team) {
            return listed(4).contains(which) ? teamTotal(which) : -1000000;
        }
        return in(which) ? total(which, null) : -1000000;
    }

    int jersey(int jersey, boolean led) {
        if (jersey < 0 || jersey > 3) {
            return NONE;
        }
        if (led) {
            return list(jersey, 0);
        }
        List<Integer> worn = new ArrayList<>();
        for (int j = 0; j <= jersey; j++) {
            worn.add(listed(j).stream().filter(r -> !worn.contains(r)).findFirst().orElse(NONE));
        }
        return worn.get(jersey);
    }

    int needs(int r) {
        if (!in(r) || closed().isEmpty()) {
            return NONE;
        }
        // Each other one must stand behind him; the dearest of them decides.
        int most = 0;
        for (int o : general(null)) {
            int behind = total(r, null) - total(o, null);
            boolean likeIsEnough = places(r, null) < places(o, null) || places(r, null) == places(o, null) && r <= o;
            most = Math.max(most, likeIsEnough ? behind : behind + 1);
        }
        return most;
    }

    int without(int stage) {
        Stage s = closed(stage);
        return s == null || general(s).isEmpty() ? NONE : general(s).get(0);
    }

    private static BigInteger pace(int m) {
        return BigInteger.valueOf(40000 + 6000 * (m - 1) / m);
    }

    int caught(int a, int seconds, int km, int b) {
        if (a < 1 || a > 16 || b < 1 || b > 16 || seconds < 0 || seconds > 3600 || km < 1 || km > 300) {
            return NONE;
        }
        BigInteger slow = pace(a);
        BigInteger fast = pace(b);
        if (fast.compareTo(slow) <= 0) {
            return NONE;
        }
        // Metres by 3600 times the difference of the paces: the way that is left less the way to the meeting.
        BigInteger scale = BigInteger.valueOf(3600).multiply(fast.subtract(slow));
        BigInteger left = BigInteger.valueOf(1000L * km).multiply(scale)
            .subtract(slow.multiply(fast).multiply(BigInteger.valueOf(seconds)));
        return left.signum() < 0 ? NONE : left.divide(scale).intValueExact();
    }

    int holds(int a, int km, int b) {
        boolean can = a >= 1 && a <= 16 && b >= 1 && b <= 16 && km >= 1 && km <= 300;
        return can ? first(0, 3600, s -> caught(a, s, km, b) == NONE) : NONE;
    }

    int chase(int a, int seconds, int km) {
        return first(1, 16, b -> caught(a, seconds, km, b) != NONE);
    }

    int fault() {
        return fault;
    }

    // ---- the text

    private static final class Faulty extends RuntimeException {
        private static final long serialVersionUID = 1;
        final int code;

        Faulty(int kind, int place) {
            code = kind + 8 * place;
        }
    }

    private List<String> tokens;
    private List<Integer> places;
    private int at;
    private boolean can;

    int tell() {
        String text = new String(tape, java.nio.charset.StandardCharsets.ISO_8859_1);
        Model before = new Model();
        before.takeOver(this);
        tape = new byte[0];
        tokens = new ArrayList<>();
        places = new ArrayList<>();
        at = 0;
        Matcher m = Pattern.compile("[a-z]+|[0-9]+|[^ \\n]", Pattern.DOTALL).matcher(text);
        while (m.find()) {
            tokens.add(m.group());
            places.add(m.start());
        }
        tokens.add("");
        places.add(text.length());
        try {
            int n = 0;
            for (; !tokens.get(at).isEmpty(); n++) {
                statement();
            }
            fault = 0;
            return n;
        } catch (Faulty f) {
            fault = f.code;
            takeOver(before);
            return NONE;
        }
    }

    private void statement() {
        int word = places.get(at);
        can = true;
        switch (tokens.get(at++)) {
            case "team" -> done(() -> team() != NONE);
            case "rider" -> {
                int t = integer(0, teams - 1);
                int a = integer(16, 50);
                done(() -> rider(t, a) != NONE);
            }
            case "stage" -> stageStatement();
            case "come" -> {
                while (isInteger()) {
                    int r = integer(0, riders.size() - 1);
                    int f = integer(1, 999999);
                    done(() -> finish(r, f));
                }
            }
            case "over" -> {
                int k = integer(0, count(5) - 1);
                while (isInteger()) {
                    int r = integer(0, riders.size() - 1);
                    done(() -> over(k, r) != NONE);
                }
            }
            case "fall" -> {
                int r = integer(0, riders.size() - 1);
                int km = integer(0, stages.isEmpty() ? 0 : stages.get(stages.size() - 1).length);
                int w = word("with") ? integer(0, riders.size() - 1) : NONE;
                done(() -> fall(r, km, w));
            }
            case "jury" -> {
                int r = integer(0, riders.size() - 1);
                int s = integer(1, 3600);
                done(() -> jury(r, s) != NONE);
            }
            case "grace" -> {
                int r = integer(0, riders.size() - 1);
                done(() -> grace(r));
            }
            case "quit" -> {
                int r = integer(0, riders.size() - 1);
                done(() -> quit(r));
            }
            case "gap" -> gap = integer(1, 99);
            case "zone" -> zone = integer(0, 9);
            case "close" -> done(() -> close() != NONE);
            default -> throw new Faulty(1, word);
        }
        if (!word(";")) {
            throw new Faulty(1, places.get(at));
        }
        if (!can) {
            throw new Faulty(3, word);
        }
    }

    private void stageStatement() {
        int kind = List.of("flat", "hills", "peaks", "trial").indexOf(tokens.get(at));
        if (kind < 0) {
            throw new Faulty(1, places.get(at));
        }
        at++;
        int length = integer(1, 300);
        done(() -> stage(kind, length) != NONE);
        int last = 0;
        while (word("at")) {
            int km = integer(last + 1, length - 1);
            last = km;
            int how;
            if (word("sprint")) {
                how = 0;
            } else if (word("climb")) {
                how = integer(1, 4);
            } else {
                throw new Faulty(1, places.get(at));
            }
            int h = how;
            done(() -> mark(km, h) != NONE);
        }
    }

    private void done(BooleanSupplier call) {
        can = can && call.getAsBoolean();
    }

    private boolean isInteger() {
        return tokens.get(at).matches("[0-9]{1,6}");
    }

    private boolean word(String w) {
        boolean is = tokens.get(at).equals(w);
        at += is ? 1 : 0;
        return is;
    }

    private int integer(int least, int most) {
        if (!isInteger()) {
            throw new Faulty(1, places.get(at));
        }
        int v = Integer.parseInt(tokens.get(at));
        if (v < least || v > most) {
            throw new Faulty(2, places.get(at));
        }
        at++;
        return v;
    }
}
