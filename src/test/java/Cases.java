import java.lang.reflect.InvocationTargetException;
import java.lang.reflect.Method;
import java.lang.reflect.Modifier;
import java.util.ArrayList;
import java.util.Comparator;
import java.util.List;

/**
 * Tests by cases: a class has a static method for each case, named by its promise's number and the case
 * (p03_anEighthPieceIsFull). All of them are found by their names, so that none is forgotten.
 */
final class Cases {
    private static final String NAME = "p[0-3][0-9]_\\w+";

    private Cases() {
    }

    static List<Method> of(Class<?> test) {
        List<Method> cases = new ArrayList<>();
        for (Method method : test.getDeclaredMethods()) {
            if (method.getName().matches(NAME) && Modifier.isStatic(method.getModifiers())) {
                cases.add(method);
            }
        }
        cases.sort(Comparator.comparing(Method::getName));
        return cases;
    }

    static int promiseOf(Method method) {
        return Integer.parseInt(method.getName().substring(1, 3));
    }

    /** Runs all cases of a class, each with a Due of its own name; ends with exit code 1 if one of them failed. */
    static void run(Class<?> test) {
        int failed = 0;
        List<Method> cases = of(test);
        for (Method method : cases) {
            Due due = new Due(test.getSimpleName() + "." + method.getName());
            try {
                method.invoke(null, due);
            } catch (InvocationTargetException | IllegalAccessException e) {
                due.is("no throw: " + (e.getCause() == null ? e : e.getCause()), 1, 0);
            }
            failed += due.failed() ? 1 : 0;
        }
        if (failed != 0 || cases.isEmpty()) {
            System.out.println(test.getSimpleName() + ": " + failed + " of " + cases.size() + " cases failed");
            System.exit(1);
        }
    }
}
