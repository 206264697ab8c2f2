import java.lang.reflect.InvocationTargetException;
import java.lang.reflect.Method;
import java.util.ArrayList;
import java.util.Comparator;
import java.util.List;

/** Runs the tests of a class, each of them one method that tells by Of which words it is of. */
final class Edges {
    private Edges() {
    }

    static List<Method> testsOf(Class<?> type) {
        List<Method> tests = new ArrayList<>();
        for (Method method : type.getDeclaredMethods()) {
            if (method.isAnnotationPresent(Of.class)) {
                tests.add(method);
            }
        }
        tests.sort(Comparator.comparing(Method::getName));
        return tests;
    }

    static void run(Class<?> type) throws IllegalAccessException, InvocationTargetException {
        for (Method test : testsOf(type)) {
            int asked = Due.asked();
            int promise = test.getAnnotation(Of.class).promise();
            Due.at((promise == 0 ? "terms" : "promise " + promise) + ", " + test.getName());
            test.invoke(null);
            Due.is("it asks something", Due.asked() > asked ? 1 : 0, 1);
        }
        Due.end(type.getName());
    }
}
