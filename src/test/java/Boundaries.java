import java.lang.reflect.Method;
import java.lang.reflect.Modifier;
import java.util.Map;
import java.util.TreeMap;

/**
 * Runs the tests of a class that are named by promises, as in promise07_fifthLetterOfNameIsFault1: each by itself, on
 * objects of its own. A promise that has none fails, and so does a test that looks at nothing.
 */
final class Boundaries {
    private Boundaries() {
    }

    static void runAll(Class<?> tests, Check check, int... promises) throws ReflectiveOperationException {
        Map<String, Method> named = new TreeMap<>();
        for (Method m : tests.getDeclaredMethods()) {
            if (Modifier.isStatic(m.getModifiers()) && m.getName().matches("promise\\d\\d_\\w+")) {
                named.put(m.getName(), m);
            }
        }
        for (Method m : named.values()) {
            check.begin(m.getName());
            int asked = check.asked();
            m.invoke(null);
            check.isTrue("it looks at something", check.asked() > asked);
        }
        check.begin(tests.getName());
        for (int promise : promises) {
            String start = String.format("promise%02d_", promise);
            check.isTrue(start + " has a test", named.keySet().stream().anyMatch(name -> name.startsWith(start)));
        }
        System.out.println(named.size() + " tests");
        check.finish();
    }
}
