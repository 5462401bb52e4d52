import java.lang.reflect.InvocationTargetException;
import java.lang.reflect.Method;
import java.util.Arrays;
import java.util.Comparator;

/** Runs the tests of a class that are about one sentence of the document each. */
final class Edges {
    private Edges() {
    }

    static void run(Class<?> tests) {
        Method[] methods = tests.getDeclaredMethods();
        Arrays.sort(methods, Comparator.comparing(Method::getName));
        int count = 0;
        for (Method method : methods) {
            if (method.isAnnotationPresent(Says.class)) {
                Check.begin(method.getName());
                run(method);
                count++;
            }
        }
        Check.begin(tests.getName());
        Check.due("has tests", count > 0, true);
        Check.end(tests.getName() + ", " + count + " tests");
    }

    private static void run(Method method) {
        String thrown = "nothing";
        try {
            method.setAccessible(true);
            method.invoke(null);
        } catch (InvocationTargetException ended) {
            thrown = Check.nameOf(ended.getCause());
        } catch (IllegalAccessException none) {
            thrown = none.toString();
        }
        Check.due("throws", thrown, "nothing");
    }
}
