import java.io.IOException;
import java.lang.reflect.Field;
import java.lang.reflect.Method;
import java.lang.reflect.Modifier;
import java.nio.file.Files;
import java.nio.file.Path;
import java.util.ArrayList;
import java.util.List;
import java.util.Set;
import java.util.regex.Matcher;
import java.util.regex.Pattern;

/** The class keeps to the rules of LANGUAGE.md, as far as its text and its members show it. */
public final class LanguageTest extends Checks {
    private static final Path SOURCE = Path.of("src/main/java/ShadowArchive.java");
    private static final int MOST_LINES_OF_A_METHOD = 60;
    private static final int MOST_PARAMETERS = 7;
    private static final int MOST_CLASSES = 12;
    private static final int MOST_FIELDS = 20;

    private static final Set<String> LIBRARY = Set.of("Math.abs", "Math.max", "Math.min", "System.arraycopy",
            "Arrays.fill", "Arrays.copyOf", "Arrays.copyOfRange");
    private static final Set<String> IMPORTS = Set.of("java.util.Arrays", "java.util.ArrayList", "java.util.List",
            "java.util.Iterator", "java.util.NoSuchElementException");
    private static final Set<String> EXCEPTIONS = Set.of("IllegalStateException", "IllegalArgumentException",
            "IndexOutOfBoundsException", "ArithmeticException", "UnsupportedOperationException",
            "NoSuchElementException", "RuntimeException");
    private static final Set<Class<?>> CONSTANTS =
            Set.of(int.class, long.class, boolean.class, char.class, String.class);

    /** The text without its comments and without what stands inside quotation marks. */
    private final String code;

    private LanguageTest(String text) {
        code = text.replaceAll("\"[^\"\n]*\"", "\"\"").replaceAll("(?s)/\\*.*?\\*/", "").replaceAll("//[^\n]*", "");
    }

    public static void main(String[] args) throws IOException {
        LanguageTest test = new LanguageTest(Files.readString(SOURCE));
        test.run(test::rule1NoPackage, test::rule2NoLambda, test::rule4Library, test::rule5StaticFields,
                test::rule6Exceptions, test::rule6Words, test::rule9Loops, test::rule10NoJoinedTexts,
                test::rule11Sizes, test::rule13Nothing);
    }

    private void rule1NoPackage() {
        hasNot("1", "\\bpackage\\b");
        same("1: one class outside", 1, found("(?m)^(?:\\S.*)?\\b(class|interface|enum|record)\\b").size());
    }

    private void rule2NoLambda() {
        hasNot("2", "->");
        hasNot("2", "::");
        hasNot("2", "\\bvar\\b");
    }

    private void rule4Library() {
        for (String name : found("(?m)^import ([\\w.*]+);")) {
            same("4: import " + name, true, IMPORTS.contains(name));
        }
        for (String name : found("\\b([A-Z]\\w*[a-z]\\w*\\.\\w+)\\(")) {
            same("4: " + name, true, LIBRARY.contains(name));
        }
    }

    private void rule5StaticFields() {
        for (Class<?> type : classes()) {
            for (Field field : type.getDeclaredFields()) {
                if (Modifier.isStatic(field.getModifiers())) {
                    same("5: " + field + " is final", true, Modifier.isFinal(field.getModifiers()));
                    same("5: " + field + " is a constant", true, CONSTANTS.contains(field.getType()));
                }
            }
        }
        hasNot("5", "\\bstatic\\s*\\{");
    }

    private void rule6Exceptions() {
        List<String> thrown = found("\\bthrow new (\\w+)\\((?:\"\")?\\);");
        same("6: each throw is of a new one", found("\\bthrow\\b").size(), thrown.size());
        for (String name : thrown) {
            same("6: throws " + name, true, EXCEPTIONS.contains(name));
        }
        String constructor = code.substring(code.indexOf("public ShadowArchive()"), code.indexOf("public void size"));
        same("6: the constructor throws nothing", false, constructor.contains("throw"));
    }

    private void rule6Words() {
        String[] words = {"finally", "synchronized", "assert", "getMessage", "equals", "hashCode", "toString",
            "volatile", "native", "extends \\w*Exception"};
        for (String word : words) {
            hasNot("6", "\\b" + word + "\\b");
        }
    }

    private void rule9Loops() {
        hasNot("9", "\\b(while|for)\\s*\\((true|;\\s*;)");
        for (String bounds : found("\\bfor \\(([^;{]*;[^;{]*;[^{]*)\\) \\{")) {
            same("9: a counter against a bound: " + bounds, true,
                    bounds.matches("int \\w+ = .*; \\w+ [<>]=? .*; \\w+(\\+\\+|--)"));
        }
    }

    private void rule10NoJoinedTexts() {
        hasNot("10", "\"\"\\s*\\+");
        hasNot("10", "\\+\\s*\"\"");
    }

    private void rule11Sizes() {
        List<Class<?>> classes = classes();
        same("11: classes", true, classes.size() <= MOST_CLASSES);
        for (Class<?> type : classes) {
            int fields = 0;
            for (Field field : type.getDeclaredFields()) {
                fields += Modifier.isStatic(field.getModifiers()) ? 0 : 1;
            }
            same("11: fields of " + type, true, fields <= MOST_FIELDS);
            for (Method method : type.getDeclaredMethods()) {
                same("11: parameters of " + method, true, method.getParameterCount() <= MOST_PARAMETERS);
            }
        }
        for (String method : found("(?ms)^( {4}| {8})\\w[^;{}=]*\\([^;{}]*\\{\n.*?^\\1\\}", 0)) {
            String name = method.lines().findFirst().orElse("").trim();
            same("11: lines of " + name, true, method.lines().count() <= MOST_LINES_OF_A_METHOD);
        }
    }

    private void rule13Nothing() {
        hasNot("13", "\\b(Random|Thread|Runtime|Process|File|Files|Path|Scanner|Instant|Clock|nanoTime"
                + "|currentTimeMillis|getenv|getProperty|identityHashCode)\\b");
        hasNot("13", "\\bSystem\\.(?!arraycopy\\()");
    }

    private static List<Class<?>> classes() {
        List<Class<?>> classes = new ArrayList<>(List.of(ShadowArchive.class.getDeclaredClasses()));
        classes.add(ShadowArchive.class);
        return classes;
    }

    private void hasNot(String rule, String pattern) {
        List<String> places = found(pattern);
        same("rule " + rule + ": " + pattern + " found: " + places, 0, places.size());
    }

    /** All places of a pattern: its first group, if it has one. */
    private List<String> found(String pattern) {
        return found(pattern, Pattern.compile(pattern).matcher("").groupCount() > 0 ? 1 : 0);
    }

    private List<String> found(String pattern, int group) {
        List<String> places = new ArrayList<>();
        Matcher matcher = Pattern.compile(pattern).matcher(code);
        while (matcher.find()) {
            places.add(matcher.group(group));
        }
        return places;
    }
}
