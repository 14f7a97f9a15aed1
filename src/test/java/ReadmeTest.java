import java.io.IOException;
import java.lang.reflect.InvocationTargetException;
import java.lang.reflect.Method;
import java.lang.reflect.Modifier;
import java.nio.file.Files;
import java.nio.file.Path;
import java.util.ArrayList;
import java.util.HashMap;
import java.util.List;
import java.util.Map;
import java.util.NoSuchElementException;
import java.util.Set;
import java.util.TreeSet;
import java.util.regex.Matcher;
import java.util.regex.Pattern;

/**
 * What README.md says of an answer is what the class answers: the page is read from its first line
 * on, and each call, each text in it is made. A row that can't be read is a mistake, too.
 */
final class ReadmeTest {
    private static final Due DUE = new Due();
    private static final Path PAGE = Path.of("README.md");
    private static final Path THIS = Path.of("src/test/java/ReadmeTest.java");

    private static final Pattern ROW = Pattern.compile("(?:int (\\w+) = )?(.+?);(?:\\s+// (\\S+?)(?::? .*)?)?");
    private static final Pattern CALL = Pattern.compile("(\\w+)\\.(\\w+)\\((.*)\\)");
    private static final Pattern SIGNATURE = Pattern.compile("(\\w+)\\(([a-z, ]*)\\)");
    private static final Pattern TOLD = Pattern.compile("tell\\(race, \"(.*)\"\\)");

    private static final Map<String, Integer> NUMBERS = new HashMap<>(Map.of("NONE", BunchTimes.NONE));
    private static final Set<String> MADE = new TreeSet<>();
    private static final Set<String> NAMED = new TreeSet<>();
    private static BunchTimes race;

    public static void main(String[] args) throws IOException {
        List<String> block = null;
        String header = "";
        for (String line : Files.readAllLines(PAGE)) {
            if (line.startsWith("```")) {
                if (block == null) {
                    block = new ArrayList<>(List.of(line.substring(3)));
                } else {
                    read(block);
                    block = null;
                }
            } else if (block != null) {
                block.add(line);
            } else if (line.startsWith("|")) {
                header = header.isEmpty() ? line : header;
                read(header, line);
            } else {
                header = "";
            }
        }
        DUE.yes("blocks are ended", block == null);
        allMethods();
        DUE.close();
    }

    private static void read(List<String> block) throws IOException {
        if (!block.get(0).equals("java")) {
            return;
        }
        List<String> rows = block.subList(1, block.size());
        if (rows.get(0).startsWith("static ")) {
            standsHere(rows);
            return;
        }
        for (String row : rows) {
            Matcher m = ROW.matcher(row);
            if (row.equals("BunchTimes race = new BunchTimes();")) {
                race = new BunchTimes();
            } else if (m.matches() && m.group(3) != null) {
                String answer = answer(m.group(2));
                DUE.sameText(row, m.group(3), answer.equals("-1") ? "NONE" : answer);
                if (m.group(1) != null) {
                    NUMBERS.put(m.group(1), Integer.valueOf(answer));
                }
            } else {
                DUE.yes("can be read: " + row, row.isEmpty());
            }
        }
    }

    /** The page's way to tell a text is the one that is used here. */
    private static void standsHere(List<String> rows) throws IOException {
        StringBuilder page = new StringBuilder();
        for (String row : rows) {
            page.append("\n    ").append(row);
        }
        DUE.yes("the code of " + rows.get(0), Files.readString(THIS).contains(page));
    }

    private static void read(String header, String line) {
        String[] cells = line.split(" *\\| *");
        if (line.equals(header) || line.startsWith("| ---")) {
            return;
        }
        String first = cells[1].replace("`", "");
        if (header.startsWith("| call |")) {
            String answer = answer(first);
            DUE.sameText(line, cells[2], answer.equals("-1") ? "NONE" : answer);
        } else if (header.startsWith("| text |")) {
            BunchTimes x = new BunchTimes();
            int statements = tell(x, first);
            DUE.same(line, Long.parseLong(cells[2]), x.fault());
            DUE.same(line, x.fault() != 0 ? BunchTimes.NONE : first.split(";").length, statements);
        } else if (header.startsWith("| method |")) {
            Matcher m = SIGNATURE.matcher(first);
            DUE.yes(line, m.matches() && hasMethod(m.group(1), m.group(2)));
            NAMED.add(m.group(1));
        } else {
            DUE.yes("tests of: " + line, Files.exists(Path.of("src/test/java", first + ".java")));
        }
    }

    private static String answer(String expression) {
        Matcher told = TOLD.matcher(expression);
        if (told.matches()) {
            return String.valueOf(tell(race, told.group(1)));
        }
        Matcher m = CALL.matcher(expression);
        if (!m.matches() || !m.group(1).equals("race")) {
            return "can't be read";
        }
        MADE.add(m.group(2));
        String[] words = m.group(3).isEmpty() ? new String[0] : m.group(3).split(", ");
        for (Method method : BunchTimes.class.getDeclaredMethods()) {
            if (method.getName().equals(m.group(2)) && method.getParameterCount() == words.length) {
                return invoke(method, words);
            }
        }
        return "no such method";
    }

    private static String invoke(Method method, String[] words) {
        Object[] values = new Object[words.length];
        for (int i = 0; i < words.length; i++) {
            values[i] = value(words[i]);
        }
        try {
            return String.valueOf(method.invoke(race, values));
        } catch (InvocationTargetException e) {
            return e.getCause() instanceof NoSuchElementException ? "NoSuchElementException" : "" + e.getCause();
        } catch (IllegalAccessException e) {
            return "" + e;
        }
    }

    private static Object value(String word) {
        if (word.equals("true") || word.equals("false")) {
            return Boolean.valueOf(word);
        }
        return NUMBERS.containsKey(word) ? NUMBERS.get(word) : Integer.valueOf(word);
    }

    private static boolean hasMethod(String name, String parameters) {
        int n = parameters.isEmpty() ? 0 : parameters.split(", ").length;
        for (Method method : BunchTimes.class.getDeclaredMethods()) {
            if (method.getName().equals(name) && method.getParameterCount() == n) {
                return Modifier.isPublic(method.getModifiers());
            }
        }
        return false;
    }

    private static void allMethods() {
        MADE.addAll(Set.of("feed", "end", "tell"));
        for (Method method : BunchTimes.class.getDeclaredMethods()) {
            if (Modifier.isPublic(method.getModifiers())) {
                DUE.yes("the page has a call of " + method.getName(), MADE.contains(method.getName()));
            }
        }
        List<String> telling = List.of("feed", "end", "tell", "fault", "team", "rider", "stage", "mark", "finish", "over",
            "fall", "jury", "grace", "quit", "rule", "close", "keep", "back");
        DUE.yes("the page tells what these tell: " + telling, NAMED.equals(new TreeSet<>(telling)));
    }

    static int tell(BunchTimes race, String text) {
        int[] fours = new int[150];
        for (int i = 0; i < text.length(); i++) {
            fours[i / 4] |= text.charAt(i) << 24 - i % 4 * 8;
        }
        race.end(0);
        for (int i = 0; 4 * i < text.length(); i += 5) {
            race.feed(fours[i], fours[i + 1], fours[i + 2], fours[i + 3], fours[i + 4]);
        }
        race.end(text.length());
        return race.tell();
    }
}
