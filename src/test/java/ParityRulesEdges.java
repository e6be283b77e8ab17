import java.io.IOException;
import java.lang.reflect.InvocationTargetException;
import java.lang.reflect.Method;
import java.nio.file.Files;
import java.nio.file.Path;
import java.util.Arrays;
import java.util.BitSet;
import java.util.Comparator;
import java.util.HashMap;
import java.util.LinkedHashMap;
import java.util.Map;
import java.util.regex.Matcher;
import java.util.regex.Pattern;

/**
 * Runs the test of each sentence of the document that names a boundary case, and looks into the
 * document whether it says what the tests say, and whether a sentence of that kind has no test.
 */
public final class ParityRulesEdges extends Checks {
    private static final Path DOCUMENT = Path.of("../shared/DOC.md");
    private static final Class<?>[] TESTS = {TermEdges.class, TextEdges.class, ChangeEdges.class, AskEdges.class};
    /** Words of sentences about what is too small, too large, empty, full or refused. */
    private static final Pattern EDGE = Pattern.compile("[A-Z]+_[A-Z]+|\\bNONE\\b|out of range|at most|up to \\d|\\d to \\d|\\d or \\d"
        + "|\\bempt(y|ies)|no such|none\\b|perhaps|lowest|oldest|nothing|however many|except|can(not)? stand");

    /** The document's sections by their headings, each in one line. */
    private static Map<String, String> sections() throws IOException {
        Map<String, String> found = new LinkedHashMap<>();
        String heading = "";
        for (String line : Files.readAllLines(DOCUMENT)) {
            if (line.startsWith("#")) {
                heading = line.replaceAll("^#+ ", "");
            } else {
                found.merge(heading, line, (before, more) -> (before + " " + more).replaceAll("\\s+", " "));
            }
        }
        return found;
    }

    private static void run(Method test) {
        Edge edge = test.getAnnotation(Edge.class);
        part = edge.in() + ", " + test.getName();
        int before = compared;
        try {
            test.invoke(null);
        } catch (InvocationTargetException e) {
            fail("it threw " + e.getCause());
        } catch (IllegalAccessException e) {
            fail("it cannot be called");
        }
        if (compared == before) {
            fail("it compares nothing");
        }
    }

    /** Marks where the document says the tested sentence. */
    private static void find(Edge edge, Map<String, String> document, Map<String, BitSet> tested) {
        part = edge.in();
        String text = document.getOrDefault(edge.in(), "");
        int at = text.indexOf(edge.says());
        if (at < 0) {
            fail("the document does not say: " + edge.says());
        }
        for (; at >= 0; at = text.indexOf(edge.says(), at + 1)) {
            tested.computeIfAbsent(edge.in(), heading -> new BitSet()).set(at, at + edge.says().length());
        }
    }

    private static void findUntested(Map<String, String> document, Map<String, BitSet> tested) {
        document.forEach((heading, text) -> {
            part = heading;
            Matcher word = EDGE.matcher(heading.equals("Not promised") ? "" : text);
            while (word.find()) {
                if (!tested.getOrDefault(heading, new BitSet()).get(word.start())) {
                    fail("no test for the sentence about: " + text.substring(word.start(), Math.min(word.start() + 60, text.length())));
                }
            }
        });
    }

    public static void main(String[] args) throws IOException {
        // The answers are due even where the document is not at hand to compare the sentences with.
        boolean documented = Files.exists(DOCUMENT);
        Map<String, String> document = documented ? sections() : Map.of();
        Map<String, BitSet> tested = new HashMap<>();
        int tests = 0;
        for (Class<?> some : TESTS) {
            Method[] methods = some.getDeclaredMethods();
            Arrays.sort(methods, Comparator.comparing(Method::getName));
            for (Method test : methods) {
                if (test.isAnnotationPresent(Edge.class)) {
                    tests++;
                    if (documented) {
                        find(test.getAnnotation(Edge.class), document, tested);
                    }
                    run(test);
                }
            }
        }
        findUntested(document, tested);
        System.out.println(tests + " sentences tested" + (documented ? "" : ", without a look at " + DOCUMENT));
        finish();
    }
}
