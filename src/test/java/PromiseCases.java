import java.lang.reflect.InvocationTargetException;
import java.lang.reflect.Method;
import java.util.TreeMap;

/** Runs each method of a test class whose name begins with the promise that it belongs to. */
abstract class PromiseCases {
    private final Check check = new Check();
    private String running = "";

    /** A new object; what it answers wrongly is told with the name of the running test. */
    final Asked asked() {
        return new Asked(check, running);
    }

    final Check check() {
        return check;
    }

    final String running() {
        return running;
    }

    final void runAll() throws IllegalAccessException {
        TreeMap<String, Method> tests = new TreeMap<>();
        for (Method method : getClass().getDeclaredMethods()) {
            if (method.getName().startsWith("promise")) {
                tests.put(method.getName(), method);
            }
        }
        for (Method method : tests.values()) {
            running = method.getName();
            try {
                method.invoke(this);
            } catch (InvocationTargetException e) {
                check.same(running + " ends", e.getCause(), "well");
            }
        }
        check.finish();
    }
}
