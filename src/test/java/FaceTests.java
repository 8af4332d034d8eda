import java.lang.reflect.Constructor;
import java.lang.reflect.Field;
import java.lang.reflect.Method;
import java.lang.reflect.Modifier;
import java.nio.charset.StandardCharsets;
import java.nio.file.Files;
import java.nio.file.Path;
import java.util.Arrays;
import java.util.Set;
import java.util.TreeSet;

/** The face is the document's, and the source keeps to those rules of LANGUAGE.md that can be seen by simple means. */
public final class FaceTests {
    private static final Path SOURCE = Path.of("src/main/java/PermanentDesk.java");
    private static final int MOST_CLASSES = 12;
    private static final int MOST_FIELDS = 20;

    private static final String[] METHODS = {
        "int clear(int)", "int set(int, int, int)", "int swapRows(int, int)", "int swapColumns(int, int)",
        "int transpose()", "int multiply(int, int)", "int add(int)", "int type(char)", "int clearText()",
        "int read()", "int undo()", "int keep()", "int restore()", "int entry(int, int)", "int total(int)",
        "int lineSum(int, boolean)", "long permanent()", "long determinant()", "long minor(int, int)",
        "long permanentOf(int, int)", "long sumOf(int)", "int wholeDiagonals()", "int wholeDiagonal(int)",
        "int diagonalsThrough(int, int)", "int rooks(int)", "int tooFew()", "int best(boolean)",
        "int nodes(boolean)", "long scaledBits(int, int, int)", "long gapBits(int)", "long boundBits(int)",
        "int part(int, boolean)", "int parts()"};
    private static final String[] CONSTANTS = {
        "int UNKNOWN", "int OUT_OF_RANGE", "int FULL", "int NOT_POSSIBLE", "int NONE",
        "long LONG_UNKNOWN", "long LONG_OUT_OF_RANGE", "long LONG_NOT_POSSIBLE"};
    private static final String[] NOT_IN_SOURCE = {
        "package ", "import ", "->", "::", "try {", "catch (", "throw ", "finally", "synchronized", "assert",
        "static {", "Double.", "Float.", "Object", "Thread", "System.out", "System.err", "System.nano",
        "System.current", "Random", "toString", "hashCode", "equals(", "protected", "instanceof", "Exact("};

    private static String signature(Method method) {
        StringBuilder text = new StringBuilder();
        text.append(method.getReturnType().getName()).append(' ').append(method.getName()).append('(');
        for (int i = 0; i < method.getParameterCount(); i++) {
            text.append(i == 0 ? "" : ", ").append(method.getParameterTypes()[i].getName());
        }
        return text.append(')').toString();
    }

    private static void face(Checks checks) {
        Class<?> desk = PermanentDesk.class;
        checks.due("modifiers", desk.getModifiers(), Modifier.PUBLIC | Modifier.FINAL);
        Set<String> methods = new TreeSet<>();
        Set<String> constants = new TreeSet<>();
        for (Method method : desk.getDeclaredMethods()) {
            if (Modifier.isPrivate(method.getModifiers())) {
                continue;
            }
            methods.add(signature(method));
            checks.due(method + " has modifiers", method.getModifiers(), Modifier.PUBLIC);
            checks.due(method + " throws", method.getExceptionTypes().length, 0);
        }
        for (Field field : desk.getDeclaredFields()) {
            if (Modifier.isPrivate(field.getModifiers())) {
                continue;
            }
            constants.add(field.getType().getName() + " " + field.getName());
            checks.due(field + " has modifiers", field.getModifiers(),
                Modifier.PUBLIC | Modifier.STATIC | Modifier.FINAL);
        }
        checks.holds("the methods are the document's: " + methods,
            methods.equals(new TreeSet<>(Arrays.asList(METHODS))));
        checks.holds("the constants are the document's: " + constants,
            constants.equals(new TreeSet<>(Arrays.asList(CONSTANTS))));
        Constructor<?>[] constructors = desk.getDeclaredConstructors();
        checks.due("constructors", constructors.length, 1);
        checks.due("parameters of the constructor", constructors[0].getParameterCount(), 0);
        checks.due("modifiers of the constructor", constructors[0].getModifiers(), Modifier.PUBLIC);
    }

    private static void classes(Checks checks) {
        Set<String> taken = new TreeSet<>();
        for (Method method : PermanentDesk.class.getDeclaredMethods()) {
            if (Modifier.isPublic(method.getModifiers())) {
                taken.add(method.getName());
            }
        }
        Class<?>[] inside = PermanentDesk.class.getDeclaredClasses();
        checks.holds("there are few classes", inside.length + 1 <= MOST_CLASSES);
        fields(checks, PermanentDesk.class);
        for (Class<?> one : inside) {
            checks.holds(one + " is static", Modifier.isStatic(one.getModifiers()));
            checks.holds(one + " is not public", !Modifier.isPublic(one.getModifiers()));
            fields(checks, one);
            for (Method method : one.getDeclaredMethods()) {
                checks.holds(method + " bears a name of its own", !taken.contains(method.getName()));
            }
        }
        for (Method method : PermanentDesk.class.getDeclaredMethods()) {
            boolean isPrivate = Modifier.isPrivate(method.getModifiers());
            checks.holds(method + " bears a name of its own", !isPrivate || !taken.contains(method.getName()));
        }
    }

    private static void fields(Checks checks, Class<?> of) {
        int own = 0;
        for (Field field : of.getDeclaredFields()) {
            boolean isStatic = Modifier.isStatic(field.getModifiers());
            own += isStatic ? 0 : 1;
            checks.holds(field + " is a constant", !isStatic || Modifier.isFinal(field.getModifiers()));
            checks.holds(field + " is no double", !isStatic || field.getType() != double.class);
        }
        checks.holds(of + " has few fields", own <= MOST_FIELDS);
    }

    private static void source(Checks checks) throws java.io.IOException {
        String source = Files.readString(SOURCE, StandardCharsets.UTF_8);
        checks.holds("all signs are plain", source.chars().allMatch(c -> c == '\n' || (c >= 32 && c < 127)));
        String code = source.replaceAll("(?s)/\\*.*?\\*/", " ").replaceAll("//[^\n]*", " ");
        for (String word : NOT_IN_SOURCE) {
            checks.holds("the source is without " + word, !code.contains(word));
        }
        checks.holds("no texts are joined by +", !code.contains("\""));
    }

    public static void main(String[] arguments) throws java.io.IOException {
        Checks checks = new Checks();
        face(checks);
        classes(checks);
        source(checks);
        checks.end("FaceTests");
    }
}
