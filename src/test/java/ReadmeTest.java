import java.io.File;
import java.io.IOException;
import java.lang.reflect.InvocationTargetException;
import java.lang.reflect.Method;
import java.nio.file.Files;
import java.nio.file.Path;
import java.util.ArrayList;
import java.util.List;
import java.util.Set;
import java.util.TreeSet;
import java.util.regex.Matcher;
import java.util.regex.Pattern;

/** README.md: its example's calls answer as it says, and it names each call and each test. */
public final class ReadmeTest {
    private static final Check check = new Check();
    private static final Pattern BLOCK = Pattern.compile("(?s)```java\n(.*?)```");
    private static final Pattern MAKING = Pattern.compile("CardWorkshop x = new CardWorkshop\\(\\);");
    private static final Pattern CALL = Pattern.compile("x\\.(\\w+)\\(([^()]*)\\);(?: +// (.*))?");
    private static final Pattern ANSWER = Pattern.compile("(true|false|-?\\d+|throws \\w+)(?:: (.*))?");
    private static final Pattern FACE_LINE = Pattern.compile("public ((?:\\w+ )?\\w+\\([^)]*\\))");

    private static CardWorkshop x = null;
    private static final Set<String> called = new TreeSet<>();

    public static void main(String[] args) throws IOException, IllegalAccessException {
        String readme = Files.readString(Path.of("README.md"));
        Matcher blocks = BLOCK.matcher(readme);
        while (blocks.find()) {
            for (String line : blocks.group(1).split("\n")) {
                example(line);
            }
        }
        callsAreNamed(readme, Files.readString(Path.of("../shared/DOC.md")));
        testsAreNamed(readme);
        check.end();
    }

    private static void example(String line) throws IllegalAccessException {
        if (MAKING.matcher(line).matches()) {
            x = new CardWorkshop();
            return;
        }
        Matcher call = CALL.matcher(line);
        check.due("is a call on a workshop: " + line, call.matches() && x != null, true);
        if (call.matches() && x != null) {
            Method method = named(call.group(1));
            Object[] arguments = arguments(method, call.group(2));
            called.add(method.getName());
            answer(line, told(method, arguments), call.group(3), arguments);
        }
    }

    private static void answer(String line, String got, String said, Object[] arguments) {
        if (said == null) {
            check.due("answers nothing: " + line, got, "null");
            return;
        }
        Matcher answer = ANSWER.matcher(said);
        check.due("tells an answer: " + line, answer.matches(), true);
        if (answer.matches()) {
            check.due(line, got, answer.group(1));
            if (arguments.length == 1 && arguments[0] instanceof Long part && got.equals("true")) {
                check.due("the characters of " + line, characters(part), answer.group(2));
            }
        }
    }

    private static Method named(String name) {
        for (Method method : CardWorkshop.class.getMethods()) {
            if (method.getName().equals(name)) {
                return method;
            }
        }
        throw new IllegalStateException("README.md calls " + name);
    }

    private static Object[] arguments(Method method, String list) {
        String[] words = list.isEmpty() ? new String[0] : list.split(", ");
        Class<?>[] types = method.getParameterTypes();
        Object[] values = new Object[words.length];
        for (int k = 0; k < words.length; k++) {
            if (types[k] == long.class) {
                values[k] = Long.decode(words[k].replace("L", ""));
            } else if (types[k] == int.class) {
                values[k] = Integer.valueOf(words[k]);
            } else {
                values[k] = Boolean.valueOf(words[k]);
            }
        }
        return values;
    }

    private static String told(Method method, Object[] arguments) throws IllegalAccessException {
        try {
            return "" + method.invoke(x, arguments);
        } catch (InvocationTargetException e) {
            return "throws " + e.getCause().getClass().getSimpleName();
        }
    }

    private static String characters(long part) {
        StringBuilder text = new StringBuilder();
        for (int shift = 56; shift >= 0; shift -= 8) {
            char c = (char) (part >>> shift & 255);
            text.append(c == 0 ? "" : c);
        }
        return text.toString();
    }

    private static void callsAreNamed(String readme, String document) {
        String face = document.substring(document.indexOf("```java"), document.indexOf("## Terms"));
        Matcher lines = FACE_LINE.matcher(face);
        List<String> names = new ArrayList<>();
        while (lines.find()) {
            check.due("README.md has a row for " + lines.group(1), readme.contains("| `" + lines.group(1) + "` |"), true);
            names.add(lines.group(1));
        }
        check.due("the face has calls and a constructor", names.size(), 17);
        check.due("the example makes each call", called.size(), 16);
    }

    private static void testsAreNamed(String readme) {
        check.due("it tells how to run the tests", readme.contains("\n.ci/run\n"), true);
        for (String file : new File("src/test/java").list()) {
            String name = file.replace(".java", "");
            check.due("README.md names " + name, !file.endsWith(".java") || readme.contains("`" + name + "`"), true);
        }
    }
}
