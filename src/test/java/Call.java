import java.lang.reflect.InvocationTargetException;
import java.lang.reflect.Method;
import java.util.ArrayList;
import java.util.Arrays;
import java.util.HashMap;
import java.util.List;
import java.util.Map;

/** A call of the face, written "insert 0 2 7", that can be made on the class and on the model alike. */
record Call(String name, int... numbers) {
    /** What a call answers that throws: the exception of exactly this class. */
    static final String INDEX = "throws.IndexOutOfBoundsException";
    static final String ARGUMENT = "throws.IllegalArgumentException";
    static final String STATE = "throws.IllegalStateException";

    /** The names in the order of the promises; the first one's is promise 2. */
    static final List<String> NAMES = List.of("insert", "delete", "learn", "learnEvent", "events", "length", "letterAt",
        "letterByList", "eventAt", "lengthOf", "letterOf", "lettersBy", "authorOf", "parents", "isLater", "version",
        "heads", "commonHeads", "concurrent", "critical", "toReplay", "runs");
    static final List<String> EDITS = NAMES.subList(0, NAMES.indexOf("events"));
    static final List<String> QUESTIONS = NAMES.subList(NAMES.indexOf("events"), NAMES.size());

    private static final Map<String, Method> METHODS = new HashMap<>();

    /** The numbers may be min and max too, the ends of the range of int. */
    static Call of(String text) {
        String[] words = text.trim().split(" +");
        int[] numbers = new int[words.length - 1];
        for (int i = 0; i < numbers.length; i++) {
            numbers[i] = number(words[i + 1]);
        }
        return new Call(words[0], numbers);
    }

    private static int number(String word) {
        return switch (word) {
            case "min" -> Integer.MIN_VALUE;
            case "max" -> Integer.MAX_VALUE;
            default -> Integer.parseInt(word);
        };
    }

    /** Several calls with a ; between them; an empty text is none. */
    static List<Call> listOf(String text) {
        List<Call> calls = new ArrayList<>();
        for (String call : text.split(";")) {
            if (!call.isBlank()) {
                calls.add(of(call));
            }
        }
        return calls;
    }

    /** The number of the promise that the call belongs to. */
    int promise() {
        return NAMES.indexOf(name) + 2;
    }

    /** The answer as a text, or the name of the exception behind "throws.". */
    String answer(Object asked) {
        Object[] arguments = new Object[numbers.length];
        for (int i = 0; i < numbers.length; i++) {
            arguments[i] = numbers[i];
        }
        try {
            return String.valueOf(method(asked.getClass()).invoke(asked, arguments));
        } catch (InvocationTargetException e) {
            return "throws." + e.getCause().getClass().getSimpleName();
        } catch (ReflectiveOperationException e) {
            return "can't be called: " + e;
        }
    }

    private Method method(Class<?> type) throws NoSuchMethodException {
        String key = type.getName() + "." + name + "." + numbers.length;
        Method method = METHODS.get(key);
        if (method == null) {
            Class<?>[] types = new Class<?>[numbers.length];
            Arrays.fill(types, int.class);
            method = type.getDeclaredMethod(name, types);
            METHODS.put(key, method);
        }
        return method;
    }

    @Override
    public String toString() {
        StringBuilder text = new StringBuilder(name);
        for (int number : numbers) {
            text.append(' ').append(number);
        }
        return text.toString();
    }
}
