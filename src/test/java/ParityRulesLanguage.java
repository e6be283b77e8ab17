import java.io.IOException;
import java.lang.reflect.Constructor;
import java.lang.reflect.Field;
import java.lang.reflect.Method;
import java.lang.reflect.Modifier;
import java.nio.file.Files;
import java.nio.file.Path;
import java.util.ArrayList;
import java.util.Arrays;
import java.util.Collections;
import java.util.List;
import java.util.Set;
import java.util.TreeSet;
import java.util.regex.Matcher;
import java.util.regex.Pattern;

/** What LANGUAGE.md asks, as far as reflection and a look at the text can tell. */
public final class ParityRulesLanguage {
    private static final Path PROGRAM = Path.of("src/main/java/ParityRules.java");
    private static final String[] FACE = {
        "answer(int)", "best(int)", "choice(int,int)", "choices(int)", "count(int)", "drop(int)", "fault()", "ifDropped(int)",
        "ifMoved(int,int)", "ifTold(int,int)", "known(int)", "move(int,int)", "nearest(int,int)", "put(long)", "read()",
        "restore(int)", "rule(int,int)", "save(int)", "tell(int,int)", "turn(int)", "undo()", "wipe()"};
    private static final String[] CONSTANTS = {
        "AGAINST", "BAD_TEXT", "BAD_VALUE", "FOLLOWS", "KEPT", "NONE", "NOT_POSSIBLE", "NO_SUCH", "TOO_MANY"};
    private static final String[] BANNED = {
        "\\b(throw|throws|try|catch|finally|synchronized|assert|import|package|volatile|transient|native|protected)\\b",
        "->", "::", "\\bstatic\\s*\\{", "\\b(equals|hashCode|toString)\\b", "Exact\\b", "\"", "\\b(Object|Thread|Random)\\b"};
    private static final Set<String> LIBRARY = Set.of("Integer.bitCount", "System.arraycopy");
    private static final int MOST_LINES = 60, MOST_CLASSES = 12, MOST_FIELDS = 20, MOST_PARAMETERS = 7;

    private static int wrong = 0;

    private static void fail(String what) {
        wrong++;
        System.out.println(what);
    }

    private static void same(String what, List<String> got, List<String> want) {
        if (!got.equals(want)) {
            fail(what + ": " + got + ", due is " + want);
        }
    }

    private static boolean isPrivate(int modifiers) {
        return Modifier.isPrivate(modifiers);
    }

    private static void face() {
        List<String> open = new ArrayList<>();
        Set<String> names = new TreeSet<>();
        for (Method method : ParityRules.class.getDeclaredMethods()) {
            if (isPrivate(method.getModifiers())) {
                continue;
            }
            names.add(method.getName());
            open.add(method.getName() + Arrays.toString(method.getParameterTypes()).replaceAll("[\\[\\] ]", "").transform(
                types -> "(" + types + ")"));
            if (method.getReturnType() != int.class || method.getModifiers() != Modifier.PUBLIC) {
                fail("not of the face: " + method);
            }
        }
        Collections.sort(open);
        same("methods", open, List.of(FACE));
        for (Method method : ParityRules.class.getDeclaredMethods()) {
            if (isPrivate(method.getModifiers()) && names.contains(method.getName())) {
                fail("a private method with a public one's name: " + method);
            }
        }
        List<String> constants = new ArrayList<>();
        for (Field field : ParityRules.class.getDeclaredFields()) {
            if (!isPrivate(field.getModifiers())) {
                constants.add(field.getName());
            }
        }
        Collections.sort(constants);
        same("constants", constants, List.of(CONSTANTS));
        Constructor<?>[] makers = ParityRules.class.getDeclaredConstructors();
        if (makers.length != 1 || makers[0].getParameterCount() != 0 || !Modifier.isPublic(makers[0].getModifiers())) {
            fail("constructors: " + Arrays.toString(makers));
        }
        if (ParityRules.class.getModifiers() != (Modifier.PUBLIC | Modifier.FINAL)) {
            fail("the class is not public and final alone");
        }
    }

    private static void classes() {
        List<Class<?>> all = new ArrayList<>(List.of(ParityRules.class.getDeclaredClasses()));
        for (Class<?> inside : all) {
            if (!Modifier.isStatic(inside.getModifiers()) || Modifier.isPublic(inside.getModifiers())) {
                fail("not private and static: " + inside);
            }
        }
        all.add(ParityRules.class);
        if (all.size() > MOST_CLASSES) {
            fail("too many classes: " + all.size());
        }
        for (Class<?> one : all) {
            int own = 0;
            for (Field field : one.getDeclaredFields()) {
                boolean isStatic = Modifier.isStatic(field.getModifiers());
                own += isStatic ? 0 : 1;
                if (isStatic && !(Modifier.isFinal(field.getModifiers()) && field.getType().isPrimitive())) {
                    fail("static state: " + field);
                }
            }
            if (own > MOST_FIELDS) {
                fail("too many fields: " + one);
            }
            for (Method method : one.getDeclaredMethods()) {
                if (method.getParameterCount() > MOST_PARAMETERS) {
                    fail("too many parameters: " + method);
                }
            }
        }
    }

    private static String withoutComments(String text) {
        return text.replaceAll("(?s)/\\*.*?\\*/", "").replaceAll("//[^\n]*", "");
    }

    private static void words(String text) {
        for (int i = 0; i < text.length(); i++) {
            if (text.charAt(i) != '\n' && (text.charAt(i) < ' ' || text.charAt(i) > '~')) {
                fail("a sign that is not plain: " + (int) text.charAt(i));
            }
        }
        String code = withoutComments(text);
        for (String banned : BANNED) {
            Matcher found = Pattern.compile(banned).matcher(code);
            while (found.find()) {
                fail("not in the language: " + found.group());
            }
        }
        Matcher called = Pattern.compile("\\b([A-Z][a-zA-Z]*)\\.([a-z][a-zA-Z]*)\\(").matcher(code);
        while (called.find()) {
            if (!LIBRARY.contains(called.group(1) + "." + called.group(2))) {
                fail("not in the library that the program uses: " + called.group());
            }
        }
    }

    /** A method ends with a brace as deep as it began; the file is laid out so. */
    private static void lengths(String text) {
        String[] lines = text.split("\n");
        for (int i = 0; i < lines.length; i++) {
            if (lines[i].matches("( {4}| {8})[a-zA-Z][^=;]*\\) \\{")) {
                String end = lines[i].replaceAll("\\S.*", "") + "}";
                int last = i;
                while (last < lines.length - 1 && !lines[last].equals(end)) {
                    last++;
                }
                if (last - i + 1 > MOST_LINES) {
                    fail("a method that is too long: " + lines[i]);
                }
            }
        }
    }

    public static void main(String[] args) throws IOException {
        String text = Files.readString(PROGRAM);
        face();
        classes();
        words(text);
        lengths(text);
        System.out.println(wrong == 0 ? "all is as the language asks" : wrong + " things are not as the language asks");
        if (wrong != 0) {
            System.exit(1);
        }
    }
}
