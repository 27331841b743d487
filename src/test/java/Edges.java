import java.lang.reflect.InvocationTargetException;
import java.lang.reflect.Method;
import java.util.ArrayList;
import java.util.Comparator;
import java.util.List;

/** Runs tests of single sentences: each method that bears Says is a test of its own. */
final class Edges {
    /** All classes that hold such tests. */
    static final List<Class<?>> ALL = List.of(EdgesOfRowsTest.class, EdgesOfWorldsTest.class, EdgesOfMondaysTest.class,
        EdgesOfHouseholdsTest.class, EdgesOfTalesTest.class, EdgesOfHappeningsTest.class, EdgesOfDoubtsTest.class,
        EdgesOfAnswersTest.class);

    private Edges() {
    }

    /** The tests of a class, by the promises, then by their names. */
    static List<Method> of(Class<?> tests) {
        List<Method> all = new ArrayList<>();
        for (Method method : tests.getDeclaredMethods()) {
            if (method.isAnnotationPresent(Says.class)) {
                all.add(method);
            }
        }
        all.sort(Comparator.comparingInt((Method m) -> m.getAnnotation(Says.class).promise())
            .thenComparing(Method::getName));
        return all;
    }

    /** Runs one; whether all answers were due. */
    static boolean holds(Method test) {
        int before = Check.wrong();
        try {
            test.setAccessible(true);
            test.invoke(null);
        } catch (InvocationTargetException thrown) {
            Check.holds(test.getName() + " threw " + thrown.getCause(), false);
        } catch (IllegalAccessException refused) {
            throw new IllegalStateException(refused);
        }
        return Check.wrong() == before;
    }

    static void run(Class<?> tests) {
        List<Method> all = of(tests);
        for (Method test : all) {
            if (!holds(test)) {
                Says says = test.getAnnotation(Says.class);
                System.out.println("  so " + test.getName() + " is broken, " + says.promise() + ": "
                    + String.join(" .. ", says.value()));
            }
        }
        System.out.println(all.size() + " sentences");
        Check.end();
    }
}
