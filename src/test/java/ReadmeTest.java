import java.lang.reflect.InvocationTargetException;
import java.lang.reflect.Method;
import java.lang.reflect.Modifier;
import java.nio.file.Files;
import java.nio.file.Path;
import java.util.List;
import java.util.regex.Matcher;
import java.util.regex.Pattern;

/** What README.md shows: its example is run line by line, and every call of the face is named. */
public final class ReadmeTest {
    private static final Pattern FED = Pattern.compile("feed\\(x, \"(.*)\"\\);");
    private static final Pattern CALL = Pattern.compile("x\\.(\\w+)\\(([0-9, -]*)\\); +// (-?\\w+).*");

    private final Check check = new Check();
    private RoadHolidays x = null;
    private int called = 0;

    public static void main(String[] args) throws Exception {
        String readme = Files.readString(Path.of(System.getProperty("root", ".")).resolve("README.md"));
        ReadmeTest test = new ReadmeTest();
        test.names(readme);
        test.runs(readme);
        test.check.end("ReadmeTest");
    }

    private void names(String readme) {
        for (Method m : RoadHolidays.class.getDeclaredMethods()) {
            if (Modifier.isPublic(m.getModifiers())) {
                boolean named = Pattern.compile("`" + m.getName() + "[`(]").matcher(readme).find();
                check.due("README.md names " + m.getName(), 1, named ? 1 : 0);
            }
        }
    }

    private void runs(String readme) throws Exception {
        String[] parts = readme.split("```");
        check.due("one example", 3, parts.length);
        for (String line : parts[1].split("\n")) {
            run(line.trim());
        }
        check.due("the example calls something", 1, called > 20 ? 1 : 0);
    }

    private void run(String line) throws Exception {
        Matcher fed = FED.matcher(line);
        Matcher call = CALL.matcher(line);
        if (line.equals("RoadHolidays x = new RoadHolidays();")) {
            x = new RoadHolidays();
        } else if (fed.matches()) {
            Check.feed(x, fed.group(1));
        } else if (call.matches()) {
            called++;
            String answer = answer(call.group(1), call.group(2));
            check.due("README.md says " + line + " - it is " + answer, 1, answer.equals(call.group(3)) ? 1 : 0);
        } else {
            check.due("'" + line + "' is a line of the example", 1, List.of("java", "").contains(line) ? 1 : 0);
        }
    }

    private String answer(String name, String arguments) throws Exception {
        Object[] given = arguments.isEmpty() ? new Object[0] : List.of(arguments.split(", ")).stream().map(Integer::valueOf).toArray();
        for (Method m : RoadHolidays.class.getDeclaredMethods()) {
            if (m.getName().equals(name) && Modifier.isPublic(m.getModifiers())) {
                try {
                    return String.valueOf(m.invoke(x, given));
                } catch (InvocationTargetException e) {
                    return e.getCause().getClass().getSimpleName();
                }
            }
        }
        return "no such call";
    }
}
