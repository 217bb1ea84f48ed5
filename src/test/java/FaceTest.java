import java.io.IOException;
import java.lang.reflect.Constructor;
import java.lang.reflect.Field;
import java.lang.reflect.Method;
import java.lang.reflect.Modifier;
import java.nio.file.Files;
import java.nio.file.Path;
import java.util.Arrays;
import java.util.Set;
import java.util.TreeSet;
import java.util.regex.Matcher;
import java.util.regex.Pattern;

/** Looks at the public face, and at what LANGUAGE.md rules out and a search can see. */
public final class FaceTest {
    private static final String I = "java.lang.IndexOutOfBoundsException";
    private static final String A = "java.lang.IllegalArgumentException";
    private static final String S = "java.lang.IllegalStateException";

    /** The methods in the order of the promises; the first one's is promise 2. */
    private static final String[] FACE = {
        "int insert(int,int,int) throws " + I + "," + A + "," + S,
        "int delete(int,int) throws " + I + "," + S,
        "int learn(int,int) throws " + I,
        "int learnEvent(int,int) throws " + I,
        "int events()",
        "int length(int) throws " + I,
        "int letterAt(int,int) throws " + I,
        "int letterByList(int,int) throws " + I,
        "int eventAt(int,int) throws " + I,
        "int lengthOf(int) throws " + I,
        "int letterOf(int,int) throws " + I,
        "int lettersBy(int,int) throws " + I,
        "int authorOf(int) throws " + I,
        "long parents(int) throws " + I,
        "boolean isLater(int,int) throws " + I,
        "long version(int) throws " + I,
        "long heads(int) throws " + I,
        "long commonHeads(int,int) throws " + I,
        "int concurrent(int) throws " + I,
        "long critical(int) throws " + I,
        "int toReplay(int) throws " + I,
        "int runs(int) throws " + I,
    };

    /** Patterns that LANGUAGE.md rules out, each behind the number of its rule, sought in the code alone. */
    private static final String[] RULED_OUT = {
        "1 \\bpackage\\b",
        "2 [\\w)]\\s*->(?<!case [-\\w, ]{1,80}->)(?<!default ->)",
        "2 ::",
        "3 \\bObject\\b",
        "4 \\bimport (?!java\\.util\\.(ArrayList|List|Iterator|Arrays|NoSuchElementException);)",
        "4 \\bSystem\\.(?!arraycopy\\b)",
        "4 Exact\\(",
        "5 \\bstatic \\{",
        "6 \\bthrow (?!new (IllegalState|IllegalArgument|IndexOutOfBounds|Arithmetic|UnsupportedOperation|NoSuchElement"
            + "|Runtime)Exception\\((\"\")?\\);)",
        "6 \\bcatch \\((Exception|RuntimeException|Throwable|Error|Array\\w+|Null\\w+|ClassCast\\w+|Negative\\w+)\\b",
        "6 \\b(finally|synchronized|assert|int hashCode|String toString)\\b",
        "10 \" \\+|\\+ \"",
        "13 \\b(Random|Thread|Runtime|File)\\b",
    };

    private FaceTest() {
    }

    public static void main(String[] args) throws IOException {
        Check check = new Check();
        checkMembers(check);
        String code = codeAlone(Files.readString(Path.of("src/main/java/EditGraph.java")));
        for (String rule : RULED_OUT) {
            String pattern = rule.substring(rule.indexOf(' ') + 1);
            Matcher found = Pattern.compile(pattern).matcher(code);
            String seen = found.find() ? found.group() : "nothing";
            check.same("what LANGUAGE.md rules out by its rule " + rule, seen, "nothing");
        }
        check.finish();
    }

    /** The source without its comments, and with its texts empty. */
    private static String codeAlone(String source) {
        return source.replaceAll("(?s)/\\*.*?\\*/", "").replaceAll("//.*", "").replaceAll("\"[^\"\n]*\"", "\"\"");
    }

    private static void checkMembers(Check check) {
        String classModifiers = Modifier.toString(EditGraph.class.getModifiers());
        check.same("promises 1 to 23: modifiers of the class", classModifiers, "public final");
        Set<String> found = new TreeSet<>();
        Set<String> publicNames = new TreeSet<>();
        Set<String> privateNames = new TreeSet<>();
        for (Method method : EditGraph.class.getDeclaredMethods()) {
            if (Modifier.isPrivate(method.getModifiers())) {
                privateNames.add(method.getName());
            } else {
                found.add(Modifier.toString(method.getModifiers()) + " " + told(method));
                publicNames.add(method.getName());
            }
        }
        for (int i = 0; i < FACE.length; i++) {
            String method = "public " + FACE[i];
            check.same("promise " + (i + 2) + ": the face has " + method, found.remove(method), true);
        }
        check.same("promises 1 to 23: other methods of the face", found, new TreeSet<>());
        privateNames.retainAll(publicNames);
        check.same("promises 1 to 23: private methods with a public one's name", privateNames, new TreeSet<>());
        for (Field field : EditGraph.class.getDeclaredFields()) {
            String modifiers = Modifier.toString(field.getModifiers());
            if (field.getName().equals("NONE")) {
                check.same("promise 1: NONE is", modifiers + " " + field.getType(), "public static final int");
            } else {
                check.same(field.getName() + " is private", modifiers.startsWith("private"), true);
            }
        }
        Constructor<?>[] constructors = EditGraph.class.getDeclaredConstructors();
        check.same("promise 1: the constructors", Arrays.toString(constructors), "[public EditGraph()]");
    }

    private static String told(Method method) {
        StringBuilder told = new StringBuilder();
        told.append(method.getReturnType().getName()).append(' ').append(method.getName());
        told.append('(').append(names(method.getParameterTypes())).append(')');
        if (method.getExceptionTypes().length > 0) {
            told.append(" throws ").append(names(method.getExceptionTypes()));
        }
        return told.toString();
    }

    private static String names(Class<?>[] types) {
        String[] names = new String[types.length];
        for (int i = 0; i < types.length; i++) {
            names[i] = types[i].getName();
        }
        return String.join(",", names);
    }
}
