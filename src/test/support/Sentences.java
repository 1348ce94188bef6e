import java.lang.reflect.InvocationTargetException;
import java.lang.reflect.Method;
import java.util.Map;
import java.util.TreeMap;

/**
 * Runs the tests of one promise: each method of the class that is not private
 * and not main is a test of one sentence, and stands or falls by itself.
 */
final class Sentences {
    private Sentences() {
    }

    static void testAll(Class<?> promise) throws IllegalAccessException {
        Map<String, Method> tests = testsOf(promise);
        int wrong = tests.isEmpty() ? 1 : 0;
        for (Method test : tests.values()) {
            wrong += holds(promise, test) ? 0 : 1;
        }
        System.out.println(wrong == 0 ? tests.size() + " tests hold" : wrong + " of " + tests.size() + " tests do not hold");
        if (wrong != 0) {
            System.exit(1);
        }
    }

    /** By name, as the machine tells methods in no order that it promises. */
    private static Map<String, Method> testsOf(Class<?> promise) {
        Map<String, Method> tests = new TreeMap<>();
        for (Method method : promise.getDeclaredMethods()) {
            boolean isPrivate = java.lang.reflect.Modifier.isPrivate(method.getModifiers());
            if (!isPrivate && !method.isSynthetic() && !method.getName().equals("main")) {
                tests.put(method.getName(), method);
            }
        }
        return tests;
    }

    private static boolean holds(Class<?> promise, Method test) throws IllegalAccessException {
        try {
            test.setAccessible(true);
            test.invoke(null);
            return true;
        } catch (InvocationTargetException e) {
            System.out.println(promise.getName() + "." + test.getName() + ": " + e.getCause());
            return false;
        }
    }
}
