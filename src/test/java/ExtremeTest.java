import java.lang.reflect.InvocationTargetException;
import java.lang.reflect.Method;
import java.lang.reflect.Modifier;
import java.util.ArrayList;
import java.util.Arrays;
import java.util.Comparator;
import java.util.List;
import java.util.NoSuchElementException;
import java.util.Random;

/** Whatever the arguments: a call answers, or throws what the document lets it throw, and counts that. */
public final class ExtremeTest {
    private static final int[] VALUES = {Integer.MIN_VALUE, Integer.MIN_VALUE + 1, -65536, -20, -1, 0, 1, 2, 3, 4, 5, 6, 7, 8, 11, 12,
        16, 31, 32, 40, 55, 60, 96, 99, 150, 200, 600, 999, 5600, 5601, 65536, Integer.MAX_VALUE - 1, Integer.MAX_VALUE};
    private static final String[] LANDS = {"", "town;", "town;town;carter 0 0;", "town;town;road 0 1 40 0;",
        "town;town;town;road 0 1 3 0;road 1 2 2 1;road 2 0 40 0;carter 0 9;carter 2 99;",
        "town;".repeat(7) + "road 5 6 7 6;".repeat(12) + "carter 6 99;".repeat(5)};

    public static void main(String[] args) throws Exception {
        Check check = new Check();
        List<Method> face = new ArrayList<>();
        for (Method m : RoadHolidays.class.getDeclaredMethods()) {
            if (Modifier.isPublic(m.getModifiers())) {
                face.add(m);
            }
        }
        face.sort(Comparator.comparing(Method::getName));
        Random random = new Random(5);
        for (int run = 0; run < 600; run++) {
            RoadHolidays x = new RoadHolidays();
            Check.land(x, LANDS[run % LANDS.length]);
            if (run % 2 == 1) {
                Check.law(x, run % 4 == 1 ? "0" : "tired*999*999*999/(0-many)%(hour-3)+length");
                Check.book(x, "0 0;55 40;");
                Check.work(x, run % 12 > 7 ? "set 0 0;again 9[hour;];" : "again 60[hour;];");
            }
            int[] thrown = {0, 0};
            for (int call = 0; call < 300; call++) {
                Method m = face.get(random.nextInt(face.size()));
                Object[] given = new Object[m.getParameterCount()];
                for (int i = 0; i < given.length; i++) {
                    given[i] = VALUES[random.nextInt(VALUES.length)];
                }
                String told = m.getName() + Arrays.toString(given);
                try {
                    m.invoke(x, given);
                } catch (InvocationTargetException e) {
                    Class<?> kind = e.getCause().getClass();
                    check.due(told + " throws " + kind, 1, Arrays.asList(m.getExceptionTypes()).contains(kind) ? 1 : 0);
                    thrown[kind == NoSuchElementException.class ? 0 : 1]++;
                }
            }
            check.due("counted as no such", thrown[0], x.status(0));
            check.due("counted as wrong", thrown[1], x.status(1));
        }
        check.end("ExtremeTest");
    }
}
