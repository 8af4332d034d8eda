import java.io.IOException;
import java.lang.reflect.InvocationTargetException;
import java.lang.reflect.Method;
import java.nio.charset.StandardCharsets;
import java.nio.file.Files;
import java.nio.file.Path;
import java.util.Arrays;
import java.util.Comparator;
import java.util.LinkedHashMap;
import java.util.Map;

/** Runs the tests of sentences, and looks whether the document says them, and whether any of its words has no test. */
final class Sentences {
    private static final Path DOCUMENT = Path.of("../shared/DOC.md");
    /** Each of these has a test for each of its words. */
    private static final String WHOLLY_TESTED = "Promise \\d+|[A-Z ]+";
    private static final String HEADS_OF_CALLS = "Ahead of the calls ";
    private static final String SIGNATURE = "^`[^`]*\\([^`]*\\)`: ";

    private final Checks checks;
    private final Map<String, StringBuilder> parts = new LinkedHashMap<>();
    private final Map<String, boolean[]> tested = new LinkedHashMap<>();

    Sentences(Checks checks) throws IOException {
        this.checks = checks;
        if (!Files.exists(DOCUMENT)) {
            System.out.println(DOCUMENT + " is missing: its words are not looked at");
            return;
        }
        String part = "";
        for (String line : Files.readAllLines(DOCUMENT, StandardCharsets.UTF_8)) {
            if (line.startsWith("## ")) {
                part = line.substring(3).replaceAll(":.*", "");
            } else if (line.matches("[A-Z][A-Z ]+")) {
                part = line;
            } else if (!line.startsWith(HEADS_OF_CALLS)) {
                String words = line.replaceAll(SIGNATURE, "") + " ";
                parts.computeIfAbsent(part, p -> new StringBuilder()).append(words);
            }
        }
        parts.forEach((name, words) -> tested.put(name, new boolean[words.length()]));
    }

    void run(SentenceGroup group) {
        Method[] methods = group.getClass().getDeclaredMethods();
        Arrays.sort(methods, Comparator.comparing(Method::getName));
        for (Method method : methods) {
            Says says = method.getAnnotation(Says.class);
            if (says != null) {
                checks.begin(says.at() + ": " + String.join(" | ", says.words()));
                for (String words : says.words()) {
                    mark(says.at(), words);
                }
                run(group, method);
            }
        }
    }

    private void run(SentenceGroup group, Method method) {
        int before = checks.made();
        try {
            method.invoke(group);
        } catch (InvocationTargetException e) {
            checks.holds(method.getName() + " ends without " + e.getCause(), false);
        } catch (IllegalAccessException e) {
            checks.holds(method.getName() + " can be run", false);
        }
        checks.holds(method.getName() + " looks at something", checks.made() > before);
    }

    private void mark(String part, String words) {
        if (parts.isEmpty()) {
            return;
        }
        String all = parts.getOrDefault(part, new StringBuilder()).toString();
        int at = all.indexOf(words);
        checks.holds("the document says at " + part + ": " + words, at >= 0);
        while (at >= 0) {
            Arrays.fill(tested.get(part), at, at + words.length(), true);
            at = all.indexOf(words, at + 1);
        }
    }

    void lookForUntestedWords() {
        checks.begin("the document");
        parts.forEach((name, words) -> {
            if (name.matches(WHOLLY_TESTED)) {
                String untested = untested(words, tested.get(name));
                checks.holds("there is a test at " + name + " for: " + untested, untested.isEmpty());
            }
        });
    }

    private static String untested(StringBuilder words, boolean[] isTested) {
        StringBuilder left = new StringBuilder();
        for (int i = 0; i < words.length(); i++) {
            left.append(isTested[i] ? ' ' : words.charAt(i));
        }
        return left.toString().replaceAll("[^A-Za-z0-9 ]", "").replaceAll(" +", " ").trim();
    }
}
