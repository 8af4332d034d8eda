import java.io.IOException;
import java.lang.reflect.Method;
import java.lang.reflect.Modifier;
import java.net.URL;
import java.net.URLClassLoader;
import java.nio.charset.StandardCharsets;
import java.nio.file.Files;
import java.nio.file.Path;
import java.util.ArrayList;
import java.util.List;
import java.util.function.BiConsumer;
import java.util.regex.Matcher;
import java.util.regex.Pattern;
import java.util.stream.Stream;
import javax.tools.JavaCompiler;
import javax.tools.ToolProvider;

/** The example of README.md: it can be compiled, and each answer that it tells is the one that is given. */
public final class ReadmeTests {
    private static final Path README = Path.of("README.md");
    private static final String CLASS = "ReadmeExample";
    private static final Pattern TOLD = Pattern.compile("(.*\\S);\\s*// ([-.\\w]+)(?:: (.*))?");
    private static final Pattern MATRIX = Pattern.compile("now ([-,/\\d]+)");
    private static final Pattern ERROR = Pattern.compile("[A-Z_]+");

    private final Checks checks;
    private final List<String> example;

    private ReadmeTests(Checks checks, List<String> example) {
        this.checks = checks;
        this.example = example;
    }

    private static List<String> example() throws IOException {
        List<String> lines = new ArrayList<>();
        boolean isCode = false;
        for (String line : Files.readAllLines(README, StandardCharsets.UTF_8)) {
            if (line.startsWith("```")) {
                isCode = line.equals("```java");
            } else if (isCode) {
                lines.add(line);
            }
        }
        return lines;
    }

    /** A call by itself on a line would be easy to leave without its answer; those in a loop stand indented. */
    private void eachCallTellsItsAnswer() {
        for (String line : example) {
            boolean isCall = line.contains("desk.") && !line.startsWith(" ");
            boolean isTold = TOLD.matcher(line).matches();
            checks.holds("an answer is told behind: " + line, isTold == (isCall || line.contains("//")));
        }
    }

    private void eachMethodIsShown() {
        String all = String.join("\n", example);
        for (Method method : PermanentDesk.class.getDeclaredMethods()) {
            if (Modifier.isPublic(method.getModifiers())) {
                checks.holds("there is a call of " + method.getName(), all.contains("desk." + method.getName() + "("));
            }
        }
    }

    private static String source(List<String> example) {
        StringBuilder source = new StringBuilder();
        source.append("public final class ").append(CLASS).append(" {\n public static void run(")
            .append("java.util.function.BiConsumer<String, String> due, ")
            .append("java.util.function.BiConsumer<PermanentDesk, String> now) {\n");
        for (String line : example) {
            Matcher told = TOLD.matcher(line);
            if (told.matches()) {
                appendCheck(source, told.group(1), told.group(2), told.group(3));
            } else {
                source.append(line).append('\n');
            }
        }
        return source.append(" }\n}\n").toString();
    }

    private static void appendCheck(StringBuilder source, String call, String answer, String meaning) {
        boolean isError = ERROR.matcher(answer).matches();
        String due = isError ? "String.valueOf(PermanentDesk." + answer + ")" : "\"" + answer + "\"";
        source.append("due.accept(String.valueOf(").append(call).append("), ").append(due).append(");\n");
        Matcher matrix = MATRIX.matcher(meaning == null ? "" : meaning);
        if (matrix.find()) {
            source.append("now.accept(desk, \"").append(matrix.group(1)).append("\");\n");
        }
    }

    private List<String> toldCalls() {
        List<String> calls = new ArrayList<>();
        for (String line : example) {
            if (TOLD.matcher(line).matches()) {
                calls.add(line);
            }
        }
        return calls;
    }

    private void run(Path place) throws Exception {
        Path file = place.resolve(CLASS + ".java");
        Files.writeString(file, source(example), StandardCharsets.UTF_8);
        JavaCompiler compiler = ToolProvider.getSystemJavaCompiler();
        String path = System.getProperty("java.class.path");
        int failed = compiler.run(null, null, null, "-cp", path, "-d", place.toString(), file.toString());
        checks.due("the compiler for the example", failed, 0);
        if (failed != 0) {
            return;
        }
        List<String> calls = toldCalls();
        List<String> answers = new ArrayList<>();
        BiConsumer<String, String> due = (got, want) -> {
            checks.dueText(calls.get(answers.size()), got, want);
            answers.add(got);
        };
        BiConsumer<PermanentDesk, String> now = (desk, want) ->
            checks.dueText("the matrix behind " + calls.get(answers.size() - 1), Desks.matrix(desk), want);
        try (URLClassLoader loader = new URLClassLoader(new URL[] {place.toUri().toURL()})) {
            Method run = loader.loadClass(CLASS).getMethod("run", BiConsumer.class, BiConsumer.class);
            run.invoke(null, due, now);
        }
        checks.due("answers that were looked at", answers.size(), calls.size());
    }

    private static void remove(Path place) throws IOException {
        try (Stream<Path> files = Files.list(place)) {
            for (Path file : (Iterable<Path>) files::iterator) {
                Files.delete(file);
            }
        }
        Files.delete(place);
    }

    public static void main(String[] arguments) throws Exception {
        Checks checks = new Checks();
        checks.begin("README.md");
        ReadmeTests tests = new ReadmeTests(checks, example());
        tests.eachCallTellsItsAnswer();
        tests.eachMethodIsShown();
        Path place = Files.createTempDirectory("readme");
        try {
            tests.run(place);
        } finally {
            remove(place);
        }
        checks.end("ReadmeTests");
    }
}
