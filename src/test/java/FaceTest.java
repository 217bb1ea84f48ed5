import java.io.IOException;
import java.lang.reflect.Constructor;
import java.lang.reflect.Field;
import java.lang.reflect.Method;
import java.lang.reflect.Modifier;
import java.nio.file.Files;
import java.nio.file.Path;
import java.util.Arrays;
import java.util.Set;
import java.util.TreeSet;

/** Looks at the public face, and at what LANGUAGE.md rules out and a search can see. */
public final class FaceTest {
    private static final String I = "java.lang.IndexOutOfBoundsException";
    private static final String A = "java.lang.IllegalArgumentException";
    private static final String S = "java.lang.IllegalStateException";

    private static final String[] FACE = {
        "int insert(int,int,int) throws " + I + "," + A + "," + S,
        "int delete(int,int) throws " + I + "," + S,
        "int learn(int,int) throws " + I,
        "int learnEvent(int,int) throws " + I,
        "int events()",
        "int length(int) throws " + I,
        "int letterAt(int,int) throws " + I,
        "int letterByList(int,int) throws " + I,
        "int eventAt(int,int) throws " + I,
        "int lengthOf(int) throws " + I,
        "int letterOf(int,int) throws " + I,
        "int lettersBy(int,int) throws " + I,
        "int authorOf(int) throws " + I,
        "long parents(int) throws " + I,
        "boolean isLater(int,int) throws " + I,
        "long version(int) throws " + I,
        "long heads(int) throws " + I,
        "long commonHeads(int,int) throws " + I,
        "int concurrent(int) throws " + I,
        "long critical(int) throws " + I,
        "int toReplay(int) throws " + I,
        "int runs(int) throws " + I,
    };

    private static final String[] RULED_OUT = {
        "import ", "package ", "catch", "->", "::", "synchronized", "assert ", "static {", "finally",
        "System.out", "Object", "Exact("};

    private FaceTest() {
    }

    public static void main(String[] args) throws IOException {
        Check check = new Check();
        checkMembers(check);
        String source = Files.readString(Path.of("src/main/java/EditGraph.java"));
        for (String word : RULED_OUT) {
            check.same("the source has '" + word + "'", source.contains(word), false);
        }
        check.finish();
    }

    private static void checkMembers(Check check) {
        check.same("modifiers of the class", Modifier.toString(EditGraph.class.getModifiers()), "public final");
        Set<String> found = new TreeSet<>();
        Set<String> publicNames = new TreeSet<>();
        Set<String> privateNames = new TreeSet<>();
        for (Method method : EditGraph.class.getDeclaredMethods()) {
            if (Modifier.isPrivate(method.getModifiers())) {
                privateNames.add(method.getName());
            } else {
                found.add(Modifier.toString(method.getModifiers()) + " " + told(method));
                publicNames.add(method.getName());
            }
        }
        Set<String> due = new TreeSet<>();
        for (String method : FACE) {
            due.add("public " + method);
        }
        check.same("the methods", found, due);
        privateNames.retainAll(publicNames);
        check.same("private methods with a public one's name", privateNames, new TreeSet<>());
        for (Field field : EditGraph.class.getDeclaredFields()) {
            String modifiers = Modifier.toString(field.getModifiers());
            if (field.getName().equals("NONE")) {
                check.same("NONE is", modifiers + " " + field.getType(), "public static final int");
            } else {
                check.same(field.getName() + " is private", modifiers.startsWith("private"), true);
            }
        }
        Constructor<?>[] constructors = EditGraph.class.getDeclaredConstructors();
        check.same("the constructors", Arrays.toString(constructors), "[public EditGraph()]");
    }

    private static String told(Method method) {
        StringBuilder told = new StringBuilder();
        told.append(method.getReturnType().getName()).append(' ').append(method.getName());
        told.append('(').append(names(method.getParameterTypes())).append(')');
        if (method.getExceptionTypes().length > 0) {
            told.append(" throws ").append(names(method.getExceptionTypes()));
        }
        return told.toString();
    }

    private static String names(Class<?>[] types) {
        String[] names = new String[types.length];
        for (int i = 0; i < types.length; i++) {
            names[i] = types[i].getName();
        }
        return String.join(",", names);
    }
}
