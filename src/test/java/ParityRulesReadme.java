import java.io.IOException;
import java.lang.reflect.Method;
import java.lang.reflect.Modifier;
import java.nio.file.DirectoryStream;
import java.nio.file.Files;
import java.nio.file.Path;
import java.util.List;
import java.util.Map;
import java.util.TreeMap;
import java.util.regex.Matcher;
import java.util.regex.Pattern;

/** README.md: its run of calls answers what it says, it has every call with its errors, and every test. */
public final class ParityRulesReadme extends Checks {
    private static final Path PAGE = Path.of("README.md"), DOCUMENT = Path.of("../shared/DOC.md"), TESTS = Path.of("src/test/java");
    private static final Pattern CALL = Pattern.compile("x\\.(\\w+)\\(([^)]*)\\); +// (-?\\d+): (.+)");
    private static final Pattern CODE = Pattern.compile("NO_SUCH|BAD_VALUE|BAD_TEXT|TOO_MANY|NOT_POSSIBLE");
    private static final Map<String, Integer> NAMES = Map.of("NO_SUCH", NO_SUCH, "BAD_VALUE", BAD_VALUE,
        "BAD_TEXT", BAD_TEXT, "TOO_MANY", TOO_MANY, "NOT_POSSIBLE", NOT_POSSIBLE, "NONE", NONE, "KEPT", KEPT, "FOLLOWS", FOLLOWS,
        "AGAINST", AGAINST);

    private static Map<String, Method> face() {
        Map<String, Method> found = new TreeMap<>();
        for (Method method : ParityRules.class.getDeclaredMethods()) {
            if (Modifier.isPublic(method.getModifiers())) {
                found.put(method.getName(), method);
            }
        }
        return found;
    }

    private static void call(ParityRules x, String line, Map<String, Method> face) throws ReflectiveOperationException {
        Matcher parts = CALL.matcher(line);
        Method method = parts.matches() ? face.get(parts.group(1)) : null;
        if (method == null) {
            fail("not a call with its answer: " + line);
            return;
        }
        String[] texts = parts.group(2).isEmpty() ? new String[0] : parts.group(2).split(", ");
        Object[] numbers = new Object[texts.length];
        for (int i = 0; i < texts.length; i++) {
            long number = Long.decode(texts[i]);
            // Chosen by "if": a "?:" would make a long of both.
            if (method.getParameterTypes()[i] == long.class) {
                numbers[i] = number;
            } else {
                numbers[i] = (int) number;
            }
        }
        int want = Integer.parseInt(parts.group(3));
        due(line, (int) method.invoke(x, numbers), want);
        String name = parts.group(4).split(",")[0].split(" ")[0];
        due("the name in " + line, NAMES.getOrDefault(name, want), want);
    }

    private static void run(String page, Map<String, Method> face) throws ReflectiveOperationException {
        part = "the run of calls";
        String[] lines = page.replaceAll("(?s).*```java\n(.*?)```.*", "$1").split("\n");
        same("the first line", lines[0], "ParityRules x = new ParityRules();");
        ParityRules x = new ParityRules();
        for (int i = 1; i < lines.length; i++) {
            call(x, lines[i], face);
        }
    }

    /** The error codes of a text, in their order there. */
    private static String codes(String text) {
        return CODE.matcher(text).results().map(found -> found.group()).toList().toString();
    }

    private static void calls(String page, Map<String, Method> face) throws IOException {
        part = "the calls";
        Map<String, String> errors = new TreeMap<>();
        Matcher row = Pattern.compile("\\| `(\\w+)\\((.*?)\\)` \\| .+? \\|(.*)\\|").matcher(page);
        while (row.find()) {
            errors.put(row.group(1), codes(row.group(3)));
            Method method = face.get(row.group(1));
            String[] names = row.group(2).isEmpty() ? new String[0] : row.group(2).split(", ");
            due("parameters of " + row.group(1), names.length, method == null ? -1 : method.getParameterCount());
        }
        same("all calls", errors.keySet().toString(), face.keySet().toString());
        if (!Files.exists(DOCUMENT)) {
            return;
        }
        Matcher promise = Pattern.compile("(?s)## Promise \\d+: (\\w+)\n(.*?)(?=\n## )").matcher(Files.readString(DOCUMENT));
        while (promise.find()) {
            if (face.containsKey(promise.group(1))) {
                same("errors of " + promise.group(1), errors.getOrDefault(promise.group(1), "no row"), codes(promise.group(2)));
            }
        }
    }

    private static void tests(String page) throws IOException {
        part = "the tests";
        for (String said : List.of("    .ci/run\n", "ParityRules.java", "../shared/tests", "src/test/java", "src/test/help")) {
            due("says " + said, page.contains(said) ? 1 : 0, 1);
        }
        try (DirectoryStream<Path> files = Files.newDirectoryStream(TESTS, "*.java")) {
            for (Path file : files) {
                String name = file.getFileName().toString().replace(".java", "");
                due("has " + name, page.contains("- `" + name + "`: ") ? 1 : 0, 1);
            }
        }
        Matcher named = Pattern.compile("- `(\\w+)`: ").matcher(page);
        while (named.find()) {
            due("there is " + named.group(1), Files.exists(TESTS.resolve(named.group(1) + ".java")) ? 1 : 0, 1);
        }
    }

    public static void main(String[] args) throws IOException, ReflectiveOperationException {
        String page = Files.readString(PAGE);
        Map<String, Method> face = face();
        run(page, face);
        calls(page, face);
        tests(page);
        finish();
    }
}
