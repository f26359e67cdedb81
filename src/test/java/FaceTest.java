import java.io.IOException;
import java.lang.reflect.Constructor;
import java.lang.reflect.Field;
import java.lang.reflect.Method;
import java.lang.reflect.Modifier;
import java.nio.file.Files;
import java.nio.file.Path;
import java.util.Arrays;
import java.util.Set;
import java.util.TreeSet;
import java.util.regex.Pattern;

/** The public face is just the document's, and what of LANGUAGE.md a simple look can tell is kept. */
public final class FaceTest {
    private static final Check check = new Check();
    private static final String NO_INDEX = "IndexOutOfBoundsException";
    private static final String NO_STATE = "IllegalStateException";
    private static final String NO_ARGUMENT = "IllegalArgumentException";
    private static final String UNSUPPORTED = "UnsupportedOperationException";

    private static final Set<String> FACE = new TreeSet<>(Arrays.asList(
            "boolean type(long)", "void wipe()", "int compile() " + NO_ARGUMENT + " " + UNSUPPORTED,
            "int code(int, boolean) " + NO_INDEX, "int deal(int, int) " + NO_ARGUMENT + " " + NO_STATE,
            "boolean put(int, int)", "int moves()", "int move(int, boolean) " + NO_INDEX,
            "int act(int) " + NO_STATE + " " + NO_INDEX, "boolean undo()", "int card(int, int)",
            "int seen(int, int, int)", "int counter(int) " + NO_INDEX, "int look(int)",
            "int solve(int) " + NO_ARGUMENT + " " + NO_STATE + " " + UNSUPPORTED, "int best()"));

    public static void main(String[] args) throws IOException {
        theClass();
        methods();
        classesInside();
        source(Files.readString(Path.of("src/main/java/CardWorkshop.java")));
        check.end();
    }

    private static void theClass() {
        check.due("public and final", CardWorkshop.class.getModifiers(), Modifier.PUBLIC | Modifier.FINAL);
        check.due("NONE", CardWorkshop.NONE, -1);
        for (Field field : CardWorkshop.class.getDeclaredFields()) {
            int want = field.getName().equals("NONE") ? Modifier.PUBLIC : Modifier.PRIVATE;
            check.due("access of " + field, field.getModifiers() & ~(Modifier.STATIC | Modifier.FINAL), want);
            boolean loose = Modifier.isStatic(field.getModifiers()) && !Modifier.isFinal(field.getModifiers());
            check.due("static and not final: " + field, loose, false);
        }
        Constructor<?>[] all = CardWorkshop.class.getDeclaredConstructors();
        check.due("constructors", all.length, 1);
        check.due("its parameters", all[0].getParameterCount(), 0);
        check.due("it is public", all[0].getModifiers(), Modifier.PUBLIC);
    }

    private static String told(Method method) {
        Set<String> thrown = new TreeSet<>();
        for (Class<?> type : method.getExceptionTypes()) {
            thrown.add(type.getSimpleName());
        }
        StringBuilder text = new StringBuilder(method.getReturnType() + " " + method.getName() + "(");
        for (int k = 0; k < method.getParameterCount(); k++) {
            text.append(k == 0 ? "" : ", ").append(method.getParameterTypes()[k]);
        }
        text.append(')');
        for (String name : thrown) {
            text.append(' ').append(name);
        }
        return text.toString();
    }

    private static void methods() {
        Set<String> found = new TreeSet<>();
        Set<String> names = new TreeSet<>();
        for (Method method : CardWorkshop.class.getDeclaredMethods()) {
            if (!Modifier.isPrivate(method.getModifiers())) {
                found.add(told(method));
                names.add(method.getName());
                check.due("just public: " + method, method.getModifiers(), Modifier.PUBLIC);
            }
        }
        for (String want : FACE) {
            check.due("there is " + want, found.contains(want), true);
        }
        check.due("no other public method", found.size(), FACE.size());
        for (Class<?> inside : CardWorkshop.class.getDeclaredClasses()) {
            for (Method method : inside.getDeclaredMethods()) {
                check.due("a name of the face: " + method, names.contains(method.getName()), false);
            }
        }
        for (Method method : CardWorkshop.class.getDeclaredMethods()) {
            boolean hidden = Modifier.isPrivate(method.getModifiers());
            check.due("a name of the face: " + method, hidden && names.contains(method.getName()), false);
            check.due("at most seven parameters: " + method, method.getParameterCount() <= 7, true);
        }
    }

    private static void classesInside() {
        Class<?>[] all = CardWorkshop.class.getDeclaredClasses();
        check.due("at most twelve classes", all.length < 12, true);
        for (Class<?> inside : all) {
            check.due("static: " + inside, Modifier.isStatic(inside.getModifiers()), true);
            check.due("not public: " + inside, Modifier.isPublic(inside.getModifiers()), false);
            for (Method method : inside.getDeclaredMethods()) {
                check.due("at most seven parameters: " + method, method.getParameterCount() <= 7, true);
            }
        }
    }

    private static void source(String text) {
        String code = text.replaceAll("(?s)/\\*.*?\\*/|//[^\n]*", " ").replaceAll("\"[^\"\n]*\"", "\"\"");
        String[] banned = {
            "\\bfinally\\b", "\\bsynchronized\\b", "\\bassert\\b", "::", "\\bpackage\\b", "Exact\\(", "getMessage",
            "\\bSystem\\.(?!arraycopy\\()", "\\bvolatile\\b", "\\bThread\\b", "\\bRandom\\b", "\\bnative\\b",
            "import (?!java\\.util\\.(Arrays|ArrayList|List|Iterator|NoSuchElementException);)",
            "(?m)^(?!\\s*(case\\b|default\\b)).*->",
            "\\bcatch \\((?!(IllegalState|IllegalArgument|IndexOutOfBounds|UnsupportedOperation|NoSuchElement)Exception\\b)",
            "\\bthrow\\b(?! new (IllegalState|IllegalArgument|IndexOutOfBounds|UnsupportedOperation|NoSuchElement|Runtime)"
                    + "Exception\\((\"\")?\\);)"
        };
        for (String pattern : banned) {
            check.due("the source has " + pattern, Pattern.compile(pattern).matcher(code).find(), false);
        }
    }
}
