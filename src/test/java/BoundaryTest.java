import java.lang.reflect.InvocationTargetException;
import java.lang.reflect.Method;
import java.nio.file.Files;
import java.nio.file.Path;
import java.util.ArrayList;
import java.util.Arrays;
import java.util.Comparator;
import java.util.List;

/** Runs a test for each boundary case that the document names. Each test quotes the words that name it. */
public final class BoundaryTest {
    private static final int PROMISES = 37;
    private static final Class<?>[] ALL = {TextBoundaries.class, LawBoundaries.class, HourBoundaries.class, AskedBoundaries.class,
        ShareBoundaries.class, YearBoundaries.class, PromiseBoundaries.class, ArgumentBoundaries.class};

    private final Check check = new Check();
    private final boolean[] held = new boolean[PROMISES + 1];
    private final String[] sections;

    private BoundaryTest() throws Exception {
        Path document = Path.of(System.getProperty("root", ".")).resolve("../shared/DOC.md");
        String terms = Files.readString(document).split("\n## Not promised")[0];
        sections = terms.split("\n## Promise [0-9]+: ");
        for (int i = 0; i < sections.length; i++) {
            sections[i] = sections[i].replaceAll("\\s+", " ");
        }
    }

    public static void main(String[] args) throws Exception {
        BoundaryTest all = new BoundaryTest();
        all.check.due("sections of the document", PROMISES + 1, all.sections.length);
        int tests = 0;
        for (Class<?> c : ALL) {
            for (Method m : testsOf(c)) {
                all.run(m);
                tests++;
            }
        }
        for (int promise = 0; promise <= PROMISES; promise++) {
            all.check.due("promise " + promise + " has a test", 1, all.held[promise] ? 1 : 0);
        }
        System.out.println("BoundaryTest: " + tests + " tests");
        all.check.end("BoundaryTest");
    }

    private static List<Method> testsOf(Class<?> c) {
        List<Method> tests = new ArrayList<>();
        for (Method m : c.getDeclaredMethods()) {
            if (m.isAnnotationPresent(Says.class)) {
                tests.add(m);
            }
        }
        tests.sort(Comparator.comparing(Method::getName));
        return tests;
    }

    private void run(Method m) throws Exception {
        Says says = m.getAnnotation(Says.class);
        String name = m.getDeclaringClass().getSimpleName() + "." + m.getName();
        int in = says.in();
        boolean quoted = in >= 0 && in < sections.length && sections[in].contains(says.words());
        check.due(name + " quotes '" + says.words() + "' from promise " + in, 1, quoted ? 1 : 0);
        held[Math.max(0, Math.min(PROMISES, in))] = true;
        int wrong = check.wrong();
        try {
            m.invoke(null, check);
        } catch (InvocationTargetException e) {
            check.due(name + " throws " + e.getCause() + " " + Arrays.toString(e.getCause().getStackTrace()), 0, 1);
        }
        if (check.wrong() != wrong) {
            System.out.println(name + " fails: '" + says.words() + "'");
        }
    }
}
