import java.io.IOException;
import java.lang.reflect.InvocationTargetException;
import java.lang.reflect.Method;
import java.lang.reflect.Modifier;
import java.nio.file.Files;
import java.nio.file.Path;
import java.util.regex.Matcher;
import java.util.regex.Pattern;

/** What README.md shows is so: its example answers what stands beside it, its table has every call. */
public final class ReadmeTest extends Checks {
    private static final String NEW_OBJECT = "ShadowArchive archive = new ShadowArchive();";
    private static final Pattern LINE = Pattern.compile("archive\\.(\\w+)\\(([^)]*)\\);\\s*(?:// (.*))?");
    private static final Pattern ANSWER = Pattern.compile("answers ([\\w-]+).*");

    private final String text;

    private ReadmeTest(String text) {
        this.text = text;
    }

    public static void main(String[] args) throws IOException {
        ReadmeTest test = new ReadmeTest(Files.readString(Path.of("README.md")));
        test.run(test::example, test::table, test::tests);
    }

    private void example() {
        String[] lines = between("```java\n", "```").split("\n");
        same("the first line", NEW_OBJECT, lines[0]);
        ShadowArchive archive = new ShadowArchive();
        for (int i = 1; i < lines.length; i++) {
            Matcher line = LINE.matcher(lines[i]);
            if (!line.matches()) {
                report("not a call: " + lines[i]);
                continue;
            }
            String answer = answerOf(archive, line.group(1), line.group(2));
            Matcher due = ANSWER.matcher(line.group(3) == null ? "" : line.group(3));
            same(lines[i], due.matches() ? due.group(1) : "null", named(line.group(1), answer));
        }
    }

    private void table() {
        String rows = between("| --- | --- |\n", "\n\n");
        for (Method method : ShadowArchive.class.getDeclaredMethods()) {
            if (Modifier.isPublic(method.getModifiers())) {
                same("the table has " + method.getName(), true, rows.contains("| `" + method.getName() + "("));
            }
        }
    }

    private void tests() {
        String section = text.substring(text.indexOf("\n## Tests\n"));
        same("how to run the tests", true, section.contains("\n    .ci/run\n"));
        String[] files = Path.of("src/test/java").toFile().list();
        for (String file : files) {
            if (file.endsWith("Test.java")) {
                String name = file.substring(0, file.length() - ".java".length());
                same("it tells of " + name, true, section.contains("`" + name + "`"));
            }
        }
    }

    private String between(String before, String behind) {
        int from = text.indexOf(before) + before.length();
        return text.substring(from, text.indexOf(behind, from));
    }

    private static String answerOf(ShadowArchive archive, String name, String arguments) {
        String[] words = arguments.isEmpty() ? new String[0] : arguments.split(", ");
        Object[] values = new Object[words.length];
        for (int i = 0; i < words.length; i++) {
            values[i] = value(words[i]);
        }
        for (Method method : ShadowArchive.class.getMethods()) {
            if (method.getName().equals(name)) {
                try {
                    return String.valueOf(method.invoke(archive, values));
                } catch (InvocationTargetException | IllegalAccessException thrown) {
                    return "threw " + thrown.getCause();
                }
            }
        }
        return "no such call";
    }

    private static Object value(String word) {
        if (word.equals("true") || word.equals("false")) {
            return Boolean.valueOf(word);
        }
        return word.startsWith("0b") ? Integer.valueOf(word.substring(2), 2) : Integer.valueOf(word);
    }

    /** The constants' names stand for their numbers where a call is told to answer them. */
    private static String named(String call, String answer) {
        if (!call.equals("rebuild") && !call.equals("audit")) {
            return answer;
        }
        return answer.equals("99") ? "MANY" : answer.equals("-1") ? "NONE" : answer;
    }
}
