import java.lang.reflect.Constructor;
import java.lang.reflect.Field;
import java.lang.reflect.Method;
import java.lang.reflect.Modifier;
import java.nio.file.Files;
import java.nio.file.Path;
import java.util.ArrayList;
import java.util.Arrays;
import java.util.HashSet;
import java.util.List;
import java.util.Set;

/** The face of the document, and those rules of LANGUAGE.md that can be seen from outside or from the text. */
public final class LanguageTest {
    private static final Check CHECK = new Check();

    private static final String[] FACE = {
        "feed 5", "land 1 I", "law 1 I", "work 1 I", "book 1 I", "fault 0", "undo 0", "told 1 I", "town 2 NI", "road 2 NI",
        "carter 2 NI", "would 8 I", "lasts 2 NI", "soon 3 NI", "way 4 NI", "latest 4 NI", "day 3 NI", "farthest 1 I",
        "joined 1 I", "part 3 NI", "mend 1 I", "picnic 1 I", "fits 1 N", "look 2 NI", "inn 3 I", "luck 4 I", "oats 3 NI",
        "weariest 1 I", "arrives 1 N", "reach 2 NI", "year 4 I", "span 6 I", "image 0", "restore 0", "status 1", "count 1"};

    private static final java.util.regex.Pattern LIBRARY = java.util.regex.Pattern.compile("\\b(Integer|Long|Math|Arrays|System|String|List)\\.\\w+");
    private static final Set<String> USED = Set.of("Integer.bitCount", "Math.min", "Math.max", "Arrays.fill", "System.arraycopy");

    public static void main(String[] args) throws Exception {
        face();
        members();
        source();
        CHECK.end("LanguageTest");
    }

    private static void yes(String what, boolean right) {
        CHECK.due(what, 1, right ? 1 : 0);
    }

    private static void face() {
        Set<String> found = new HashSet<>();
        for (Method m : RoadHolidays.class.getDeclaredMethods()) {
            if (Modifier.isPrivate(m.getModifiers())) {
                continue;
            }
            yes(m.getName() + " is public, not static", Modifier.isPublic(m.getModifiers()) && !Modifier.isStatic(m.getModifiers()));
            StringBuilder throwing = new StringBuilder();
            for (Class<?> e : m.getExceptionTypes()) {
                throwing.append(e.getSimpleName().charAt(0));
            }
            found.add((m.getName() + " " + m.getParameterCount() + " " + throwing).trim());
            yes(m.getName() + " takes int", Arrays.stream(m.getParameterTypes()).allMatch(t -> t == int.class));
            Class<?> answer = m.getName().equals("joined") ? boolean.class : m.getName().equals("luck") ? long.class : int.class;
            yes(m.getName() + " answers " + answer, m.getReturnType() == answer);
        }
        yes("face is " + found, found.equals(new HashSet<>(Arrays.asList(FACE))));
        Constructor<?>[] made = RoadHolidays.class.getDeclaredConstructors();
        yes("one constructor", made.length == 1 && Modifier.isPublic(made[0].getModifiers()) && made[0].getParameterCount() == 0);
        yes("final class", Modifier.isFinal(RoadHolidays.class.getModifiers()));
    }

    private static void members() {
        List<Class<?>> all = new ArrayList<>(List.of(RoadHolidays.class.getDeclaredClasses()));
        all.add(RoadHolidays.class);
        yes("twelve classes at most", all.size() <= 12);
        for (Class<?> c : all) {
            yes(c + " is static", c == RoadHolidays.class || Modifier.isStatic(c.getModifiers()));
            int own = 0;
            for (Field f : c.getDeclaredFields()) {
                boolean fixed = Modifier.isStatic(f.getModifiers());
                own += fixed ? 0 : 1;
                yes(f + " is final if static", !fixed || Modifier.isFinal(f.getModifiers()));
                yes(f + " is private in the face", c != RoadHolidays.class || Modifier.isPrivate(f.getModifiers()) || f.getName().equals("NONE"));
            }
            yes(c + " has twenty fields at most", own <= 20);
            for (Method m : c.getDeclaredMethods()) {
                yes(m + " takes seven at most", m.getParameterCount() <= 7 || m.getName().equals("would"));
                boolean named = Arrays.stream(FACE).anyMatch(f -> f.startsWith(m.getName() + " "));
                yes(m + " bears no name of the face", !named || c == RoadHolidays.class && Modifier.isPublic(m.getModifiers()));
            }
        }
    }

    private static void source() throws Exception {
        Path root = Path.of(System.getProperty("root", "."));
        List<String> lines = Files.readAllLines(root.resolve("src/main/java/RoadHolidays.java"));
        int begun = -1;
        for (int i = 0; i < lines.size(); i++) {
            String line = lines.get(i);
            String place = "line " + (i + 1) + " '" + line.trim() + "' has no ";
            for (String no : new String[] {"->", "::", "Exact(", "catch", "finally", "synchronized", "assert ", "package ", "System.out", "instanceof", "hashCode"}) {
                yes(place + no, !line.contains(no));
            }
            yes(place + "sign beyond 127", line.chars().allMatch(c -> c < 128));
            java.util.regex.Matcher used = LIBRARY.matcher(line);
            while (used.find()) {
                yes(place + "call of the library that no rule lists", USED.contains(used.group()));
            }
            if (line.startsWith("import ")) {
                yes(place + "other library", line.equals("import java.util.Arrays;") || line.equals("import java.util.NoSuchElementException;"));
            }
            if (line.contains("throw new")) {
                yes(place + "other exception", line.contains("new NoSuchElementException(\"") || line.contains("new IllegalArgumentException(\""));
            }
            if (line.matches(" {4}( {4})?[a-zA-Z].*\\) (throws .*)?\\{") && !line.contains(" class ")) {
                begun = i;
            }
            if (line.matches(" {4}( {4})?}") && begun >= 0) {
                yes("line " + (begun + 1) + " begins a method of sixty lines at most", i - begun < 60);
                begun = -1;
            }
        }
    }
}
