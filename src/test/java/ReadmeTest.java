import java.io.IOException;
import java.lang.reflect.Method;
import java.nio.file.Files;
import java.nio.file.Path;
import java.util.ArrayList;
import java.util.Arrays;
import java.util.List;
import java.util.TreeSet;
import java.util.regex.Matcher;
import java.util.regex.Pattern;
import java.util.stream.Stream;

/** What README.md shows as an answer is one of the class, and it tells each call as the class declares it. */
public final class ReadmeTest {
    private static final Pattern EXAMPLE = Pattern.compile("(?s)```java\n(.*?)```");
    private static final Pattern NEW_OBJECT = Pattern.compile("EditGraph x = new EditGraph\\(\\);");
    private static final Pattern SHOWN = Pattern.compile("x\\.(\\w+)\\((.*?)\\); +// ([^:]+)(:.*)?");
    private static final Pattern ROW = Pattern.compile("\\| (\\d+) \\|(.*)\\|(.*)\\|(.*)\\|(.*)\\|");
    private static final Pattern IN_CODE = Pattern.compile("`([^`]*)`");

    private final Check check = new Check();
    private final String readme;

    private ReadmeTest(String readme) {
        this.readme = readme;
    }

    public static void main(String[] args) throws IOException {
        ReadmeTest test = new ReadmeTest(Files.readString(Path.of("README.md")));
        test.answersAreAsShown();
        test.eachCallHasARow();
        test.constantAndBoundsAreTold();
        test.eachTestIsNamed();
        test.check.finish();
    }

    // ---- the examples

    private void answersAreAsShown() {
        TreeSet<String> shown = new TreeSet<>();
        Matcher example = EXAMPLE.matcher(readme);
        while (example.find()) {
            lookAtExample(example.group(1), shown);
        }
        check.same("promises 2 to 23, README.md: calls with an answer", shown, new TreeSet<>(Call.NAMES));
    }

    private void lookAtExample(String example, TreeSet<String> shown) {
        EditGraph graph = new EditGraph();
        for (String line : example.split("\n")) {
            Matcher call = SHOWN.matcher(line);
            if (call.matches()) {
                lookAtCall(graph, call);
                shown.add(call.group(1));
            } else if (NEW_OBJECT.matcher(line).matches()) {
                graph = new EditGraph();
            } else {
                check.same("README.md: what is neither a new object nor a call with its answer", line, "");
            }
        }
    }

    private void lookAtCall(EditGraph graph, Matcher shown) {
        Call call = Call.of(shown.group(1) + " " + shown.group(2).replace(",", ""));
        String due = shown.group(3).trim().replace("throws ", "throws.");
        // The class has to answer what the page shows, so it is the page that may be wrong here.
        check.same("promise " + call.promise() + ", README.md: " + call, call.answer(graph), due);
    }

    // ---- the tables

    private void eachCallHasARow() {
        List<String> found = new ArrayList<>();
        for (String line : readme.split("\n")) {
            Matcher row = ROW.matcher(line);
            if (row.matches()) {
                found.add("promise " + row.group(1) + ": " + row.group(2).trim());
                lookAtArguments(row);
                lookAtRow(row);
            }
        }
        check.same("promises 1 to 23, README.md: number of calls told", found.size(), Call.NAMES.size() + 1);
        check.same("promises 1 to 23, README.md: calls told twice", found.size() - new TreeSet<>(found).size(), 0);
    }

    /** Each argument of the call stands in the column that tells what it may be. */
    private void lookAtArguments(Matcher row) {
        String call = row.group(2);
        String arguments = call.substring(call.indexOf('(') + 1, call.indexOf(')'));
        List<String> due = new ArrayList<>();
        for (String argument : arguments.split(", ")) {
            due.add(argument.replace("int ", ""));
        }
        due.remove("");
        check.same("promise " + row.group(1) + ", README.md: arguments", inCode(row.group(3)), due);
    }

    private void lookAtRow(Matcher row) {
        String told = "promise " + row.group(1) + ", README.md: ";
        if (row.group(1).equals("1")) {
            check.same(told + "call", row.group(2).trim(), "`EditGraph()`");
            check.same(told + "exceptions", inCode(row.group(5)), List.of());
            return;
        }
        Method method = methodOf(Integer.parseInt(row.group(1)));
        // The names of arguments are not kept in a compiled class: only their types can be looked at.
        String withoutNames = row.group(2).trim().replaceAll("int \\w+(?=[,)])", "int");
        check.same(told + "call", withoutNames, "`" + method.getReturnType() + " " + method.getName() + "("
            + String.join(", ", simpleNames(method.getParameterTypes())) + ")`");
        check.same(told + "exceptions", inCode(row.group(5)), simpleNames(method.getExceptionTypes()));
    }

    private static Method methodOf(int promise) {
        String name = Call.NAMES.get(promise - 2);
        for (Method method : EditGraph.class.getMethods()) {
            if (method.getName().equals(name)) {
                return method;
            }
        }
        throw new IllegalStateException("the class has no " + name);
    }

    private static List<String> inCode(String text) {
        List<String> found = new ArrayList<>();
        Matcher code = IN_CODE.matcher(text);
        while (code.find()) {
            found.add(code.group(1));
        }
        return found;
    }

    private static List<String> simpleNames(Class<?>[] types) {
        return Arrays.stream(types).map(Class::getSimpleName).toList();
    }

    // ---- the rest

    private void constantAndBoundsAreTold() {
        String words = readme.replaceAll("\\s+", " ");
        boolean toldNone = words.contains("`EditGraph.NONE` is " + EditGraph.NONE + ":");
        check.same("promise 1, README.md tells NONE", toldNone, true);
        boolean toldCalls = words.contains("at most " + Questions.MOST_CALLS + " calls after it has been made");
        check.same("promises 1 to 23, README.md tells for how many calls an object is used", toldCalls, true);
    }

    private void eachTestIsNamed() throws IOException {
        try (Stream<Path> files = Files.list(Path.of("src/test/java"))) {
            for (Path file : files.sorted().toList()) {
                String name = file.getFileName().toString().replace(".java", "");
                if (name.endsWith("Test")) {
                    check.same("README.md names " + name, readme.contains("`" + name + "`"), true);
                }
            }
        }
    }
}
