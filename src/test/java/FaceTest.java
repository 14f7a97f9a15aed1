import java.io.IOException;
import java.lang.reflect.Constructor;
import java.lang.reflect.Field;
import java.lang.reflect.Member;
import java.lang.reflect.Method;
import java.lang.reflect.Modifier;
import java.nio.file.Files;
import java.nio.file.Path;
import java.util.ArrayList;
import java.util.List;
import java.util.Map;
import java.util.Set;
import java.util.TreeSet;

/** The face is the document's, and nothing else can be seen. */
final class FaceTest {
    private static final Path DOCUMENT = Path.of("../shared/DOC.md");
    private static final Path SOURCE = Path.of("src/main/java/BunchTimes.java");
    private static final Map<String, String> ROWS_AHEAD = Map.of(
        "feed", "// ---- what is told",
        "told", "// ---- a stage that is closed (NONE: there is none such)",
        "list", "// ---- lists",
        "caught", "// ---- breakaways");
    private static final Set<String> FACE = new TreeSet<>(Set.of(
        "int feed(int,int,int,int,int)", "boolean end(int)", "int tell()", "int fault()", "int team()",
        "int rider(int,int)", "int stage(int,int)", "int mark(int,int)", "boolean finish(int,int)", "int over(int,int)",
        "boolean fall(int,int,int)", "int jury(int,int)", "boolean grace(int)", "boolean quit(int)",
        "boolean rule(int,int)", "int close()", "boolean keep(int)", "boolean back(int)", "int count(int)",
        "int of(int,int) throws java.util.NoSuchElementException", "int told(int,int)", "int order(int,int)",
        "int result(int,int,int)", "int parted(int,int)", "int together(int)", "int escaped(int)", "int list(int,int)",
        "int total(int,boolean)", "int jersey(int,boolean)", "int needs(int)", "int without(int)",
        "int caught(int,int,int,int)", "int holds(int,int,int)", "int chase(int,int,int)"));

    public static void main(String[] args) throws IOException {
        Due due = new Due();
        asTheDocumentWrites(due);
        Set<String> seen = new TreeSet<>();
        Set<String> names = new TreeSet<>();
        for (Method m : BunchTimes.class.getDeclaredMethods()) {
            if (Modifier.isPublic(m.getModifiers())) {
                seen.add(m.toGenericString().replace("public ", "").replace("BunchTimes.", ""));
                names.add(m.getName());
            }
        }
        due.yes("the public methods are the document's: " + seen, seen.equals(FACE));
        due.same("public constructors", 1, BunchTimes.class.getConstructors().length);
        due.same("constructors", 1, BunchTimes.class.getDeclaredConstructors().length);
        due.yes("final", Modifier.isFinal(BunchTimes.class.getModifiers()));
        due.same("NONE", -1, BunchTimes.NONE);
        for (Field f : BunchTimes.class.getDeclaredFields()) {
            due.yes(f + " is hidden", f.getName().equals("NONE") || Modifier.isPrivate(f.getModifiers()));
        }
        for (Method m : BunchTimes.class.getDeclaredMethods()) {
            hidden(due, m, names);
        }
        for (Class<?> inside : BunchTimes.class.getDeclaredClasses()) {
            due.yes(inside + " is static", Modifier.isStatic(inside.getModifiers()));
            for (Method m : inside.getDeclaredMethods()) {
                hidden(due, m, names);
            }
            for (Constructor<?> c : inside.getDeclaredConstructors()) {
                due.no(c + " is public", Modifier.isPublic(c.getModifiers()));
            }
        }
        due.close();
    }

    /** Each line of the document's face stands in the source, in its order, and its rows ahead of the calls. */
    private static void asTheDocumentWrites(Due due) throws IOException {
        List<String> face = documentFace();
        due.same("lines of the document's face", 36, face.size());
        List<String> source = Files.readAllLines(SOURCE);
        int at = -1;
        for (String line : face) {
            String declared = line.contains("(") ? line.substring(0, line.length() - 1) + " {" : line;
            int found = source.indexOf(declared);
            due.yes("the source has, behind the one ahead: " + line, found > at);
            at = Math.max(at, found);
            String row = ROWS_AHEAD.get(line.replaceFirst("\\(.*", "").replaceFirst(".* ", ""));
            due.yes("ahead of it stands: " + row, row == null || at > 1 && source.get(at - 2).trim().equals(row));
        }
    }

    private static List<String> documentFace() throws IOException {
        List<String> face = new ArrayList<>();
        boolean within = false;
        for (String line : Files.readAllLines(DOCUMENT)) {
            if (line.startsWith("```")) {
                within = line.equals("```java");
            } else if (within && line.startsWith("    public ")) {
                face.add(line);
            }
        }
        return face;
    }

    private static void hidden(Due due, Member m, Set<String> names) {
        if (!Modifier.isPublic(m.getModifiers())) {
            due.yes(m + " is private", Modifier.isPrivate(m.getModifiers()));
            due.no(m + " has a public one's name", names.contains(m.getName()));
        }
    }
}
