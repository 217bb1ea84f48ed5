import java.lang.reflect.InvocationTargetException;
import java.lang.reflect.Method;
import java.util.Arrays;

/** Calls a method by its name, so that the class and the model can be asked the same. */
final class Calls {
    private static final String[] BY_AUTHOR = {
        "length", "version", "heads", "concurrent", "critical", "toReplay", "runs"};
    private static final String[] BY_TWO_AUTHORS = {"lettersBy", "commonHeads"};
    private static final String[] BY_AUTHOR_AND_PLACE = {"letterAt", "letterByList", "eventAt"};
    private static final String[] BY_EVENT = {"lengthOf", "authorOf", "parents"};

    private Calls() {
    }

    /** The answer as a text, or the name of the exception. */
    static String answer(Object asked, String name, int... numbers) {
        Class<?>[] types = new Class<?>[numbers.length];
        Arrays.fill(types, int.class);
        Object[] arguments = new Object[numbers.length];
        for (int i = 0; i < numbers.length; i++) {
            arguments[i] = numbers[i];
        }
        try {
            Method method = asked.getClass().getDeclaredMethod(name, types);
            return String.valueOf(method.invoke(asked, arguments));
        } catch (InvocationTargetException e) {
            return "throws." + e.getCause().getClass().getSimpleName();
        } catch (ReflectiveOperationException e) {
            return "can't be called: " + e;
        }
    }

    /** All that can be asked without changing anything, a line for each question. */
    static String everything(Object asked) {
        StringBuilder all = new StringBuilder();
        ask(all, asked, "events");
        int events = Integer.parseInt(answer(asked, "events"));
        for (int author = -1; author <= 4; author++) {
            askAboutAuthor(all, asked, author, events);
        }
        for (int event = -1; event <= events; event++) {
            askAboutEvent(all, asked, event, events);
        }
        return all.toString();
    }

    private static void askAboutAuthor(StringBuilder all, Object asked, int author, int events) {
        for (String name : BY_AUTHOR) {
            ask(all, asked, name, author);
        }
        for (String name : BY_TWO_AUTHORS) {
            for (int other = -1; other <= 4; other++) {
                ask(all, asked, name, author, other);
            }
        }
        for (String name : BY_AUTHOR_AND_PLACE) {
            for (int place = -1; place <= events; place++) {
                ask(all, asked, name, author, place);
            }
        }
    }

    private static void askAboutEvent(StringBuilder all, Object asked, int event, int events) {
        for (String name : BY_EVENT) {
            ask(all, asked, name, event);
        }
        for (int other = -1; other <= events; other++) {
            ask(all, asked, "letterOf", event, other);
            ask(all, asked, "isLater", event, other);
        }
    }

    private static void ask(StringBuilder all, Object asked, String name, int... numbers) {
        all.append(name).append(Arrays.toString(numbers)).append(" = ");
        all.append(answer(asked, name, numbers)).append('\n');
    }
}
