import java.io.IOException;
import java.lang.reflect.Field;
import java.lang.reflect.Method;
import java.lang.reflect.Modifier;
import java.nio.file.Files;
import java.nio.file.Path;
import java.util.ArrayList;
import java.util.Arrays;
import java.util.List;
import java.util.regex.Matcher;
import java.util.regex.Pattern;

/** What of LANGUAGE.md can be seen from the text and the fields of the class, by the rules' numbers. */
public final class RulesTest {
    private static final List<Class<?>> CONSTANTS = List.of(int.class, long.class, boolean.class, char.class, String.class,
        int[].class, long[].class, char[].class, byte[].class);
    /** All that is used of the library; the rules leave more. */
    private static final List<String> LIBRARY = List.of("Math.max", "Math.min", "Integer.bitCount", "GRAMMAR.charAt", "GRAMMAR.length");

    private final Check check = new Check("RulesTest");
    private final String code;
    private final List<Class<?>> classes = new ArrayList<>();

    private RulesTest(String text) {
        String bare = text.replaceAll("(?s)/\\*.*?\\*/", "").replaceAll("//[^\n]*", "");
        code = bare.replaceAll("\"[^\"\n]*\"", "\"\"").replaceAll("'[^']'", "'s'");
        classes.add(SworeCaptain.class);
        classes.addAll(Arrays.asList(SworeCaptain.class.getDeclaredClasses()));
    }

    public static void main(String[] args) throws IOException {
        RulesTest t = new RulesTest(Files.readString(Path.of("src/main/java/SworeCaptain.java")));
        t.words();
        t.library();
        t.throwsOnce();
        t.methodsAreShort();
        t.classesAreSmall();
        t.check.end();
    }

    private int times(String pattern) {
        Matcher m = Pattern.compile(pattern).matcher(code);
        int found = 0;
        while (m.find()) {
            found++;
        }
        return found;
    }

    /** Rules 2, 3, 6 and 10: what isn't used at all. */
    private void words() {
        String[] never = {"package", "try", "catch", "finally", "synchronized", "assert", "volatile", "transient", "native", "Object",
            "double", "float", "equals", "hashCode", "toString", "System", "Thread", "Random"};
        for (String word : never) {
            check.due(word + " stands in the class", times("\\b" + word + "\\b"), 0);
        }
        check.due("lambdas and references", times("->|::"), 0);
        check.due("static blocks", times("\\bstatic\\s*\\{"), 0);
        check.due("texts joined by +", times("\"\"\\s*\\+|\\+\\s*\"\""), 0);
    }

    /** Rule 4. */
    private void library() {
        check.due("imports", times("(?m)^import "), 1);
        check.due("the import", times("(?m)^import java\\.util\\.NoSuchElementException;$"), 1);
        Matcher m = Pattern.compile("\\b([A-Z]\\w*\\.[a-z]\\w*)\\(").matcher(code);
        while (m.find()) {
            boolean own = classes.stream().anyMatch(c -> m.group(1).startsWith(c.getSimpleName() + "."));
            check.due(m.group(1) + " may be called", own || LIBRARY.contains(m.group(1)), true);
        }
    }

    /** Rule 6: led throws, and nothing else does. */
    private void throwsOnce() {
        check.due("throws", times("\\bthrow\\b"), 1);
        check.due("led throws", times("throw new NoSuchElementException\\(\"\"\\);"), 1);
    }

    /** Rule 11: at most some sixty lines, and seven parameters. */
    private void methodsAreShort() {
        String[] lines = code.split("\n");
        int seen = 0;
        for (int from = 0; from < lines.length; from++) {
            Matcher m = Pattern.compile("( {4}| {8})(?:[\\w\\[\\]]+ )*(\\w+)\\([^;=]*\\{").matcher(lines[from]);
            if (!m.matches()) {
                continue;
            }
            seen++;
            int to = from;
            while (!lines[to].equals(m.group(1) + "}") && to - from <= 60) {
                to++;
            }
            check.due(m.group(2) + " is short", to - from < 60, true);
        }
        check.due("methods were seen", seen > 100, true);
        for (Class<?> c : classes) {
            for (Method m : c.getDeclaredMethods()) {
                check.due(c + "." + m.getName() + " takes few", m.getParameterCount() <= 7, true);
            }
        }
    }

    /** Rules 3, 5 and 11. */
    private void classesAreSmall() {
        check.due("some twelve classes", classes.size() <= 12, true);
        for (Class<?> c : classes) {
            int fields = 0;
            for (Field f : c.getDeclaredFields()) {
                if (Modifier.isStatic(f.getModifiers())) {
                    check.due(f + " is a constant", Modifier.isFinal(f.getModifiers()) && CONSTANTS.contains(f.getType()), true);
                } else {
                    fields++;
                    check.due(f + " may be held", mayBeHeld(f.getType()), true);
                }
            }
            check.due(c + " has some twenty fields", fields <= 20, true);
        }
    }

    private boolean mayBeHeld(Class<?> type) {
        boolean array = type.isArray();
        Class<?> one = array ? type.getComponentType() : type;
        return one.isPrimitive() || classes.contains(one) || array && one.isArray() && one.getComponentType().isPrimitive();
    }
}
