import java.io.IOException;
import java.lang.reflect.Array;
import java.lang.reflect.Field;
import java.lang.reflect.Method;
import java.lang.reflect.Modifier;
import java.nio.file.Files;
import java.nio.file.Path;
import java.util.ArrayDeque;
import java.util.ArrayList;
import java.util.Arrays;
import java.util.Collections;
import java.util.Deque;
import java.util.IdentityHashMap;
import java.util.List;
import java.util.Set;
import java.util.TreeSet;
import java.util.regex.Matcher;
import java.util.regex.Pattern;

/** The rules of LANGUAGE.md that can be seen in the class or in its text; FaceTest has the face of rule 1. */
public final class LanguageTest {
    private static final Path SOURCE = Path.of("src/main/java/CommitDesk.java");

    // Rules 2, 4, 6, 10 and 13: what the class needs none of, so that it need not be told apart from what is allowed.
    private static final String[] NOT_IN_THE_TEXT = {
        "\\bimport\\b", "\\bpackage\\b", "->", "::", "\\btry\\b", "\\bfinally\\b", "\\bsynchronized\\b", "\\bassert\\b",
        "\\bdouble\\b", "\\bfloat\\b", "\\w+Exact\\b", "\\bSystem\\b", "\\bThread\\b", "\\bjava\\.", "\\bMath\\.random",
        "\\bstatic\\s*\\{", "\\bextends\\b", "\\bhashCode\\b", "\\bequals\\b", "\\btoString\\b", "\\bnull\\b",
    };

    private static final Set<String> EXCEPTIONS = Set.of("IllegalStateException", "IllegalArgumentException",
            "IndexOutOfBoundsException", "ArithmeticException", "UnsupportedOperationException",
            "NoSuchElementException", "RuntimeException");

    private static final Set<Class<?>> CONSTANTS =
            Set.of(int.class, long.class, boolean.class, char.class, String.class);

    public static void main(String[] args) throws IOException, IllegalAccessException {
        Check check = new Check();
        String text = textWithoutComments();
        noPrivateMethodBearsThePublicName(check);
        classesInside(check);
        staticFieldsAreConstants(check);
        notInTheText(check, text);
        throwsAreWrittenOut(check, text);
        sizes(check);
        methodsStayShort(check);
        littleIsKept(check);
        check.end();
    }

    private static String textWithoutComments() throws IOException {
        return Files.readString(SOURCE).replaceAll("(?s)/\\*.*?\\*/", "").replaceAll("//.*", "");
    }

    private static List<Class<?>> classes() {
        List<Class<?>> classes = new ArrayList<>(List.of(CommitDesk.class));
        for (int i = 0; i < classes.size(); i++) {
            classes.addAll(Arrays.asList(classes.get(i).getDeclaredClasses()));
        }
        return classes;
    }

    /** Rule 1: "No private method bears the name of a public one." */
    private static void noPrivateMethodBearsThePublicName(Check check) {
        Set<String> open = new TreeSet<>();
        Set<String> hidden = new TreeSet<>();
        for (Class<?> one : classes()) {
            for (Method method : one.getDeclaredMethods()) {
                (Modifier.isPublic(method.getModifiers()) ? open : hidden).add(method.getName());
            }
        }
        open.retainAll(hidden);
        check.same("names of public methods borne by others", open.toString(), "[]");
    }

    /** Rule 1: the classes inside "are private or package-visible and static"; rule 2: none captures a variable. */
    private static void classesInside(Check check) {
        for (Class<?> one : classes().subList(1, classes().size())) {
            int modifiers = one.getModifiers();
            check.same(one + " is static", Modifier.isStatic(modifiers), true);
            check.same(one + " is hidden", Modifier.isPublic(modifiers) || Modifier.isProtected(modifiers), false);
        }
    }

    /** Rule 5: "Static fields are final: constants of int, long, boolean, char or String". */
    private static void staticFieldsAreConstants(Check check) {
        for (Class<?> one : classes()) {
            for (Field field : one.getDeclaredFields()) {
                if (Modifier.isStatic(field.getModifiers())) {
                    check.same(field + " is final", Modifier.isFinal(field.getModifiers()), true);
                    check.same(field + " is a constant", CONSTANTS.contains(field.getType()), true);
                }
            }
        }
    }

    private static void notInTheText(Check check, String text) {
        for (String pattern : NOT_IN_THE_TEXT) {
            check.same("the text has " + pattern, Pattern.compile(pattern).matcher(text).find(), false);
        }
    }

    /** Rule 6: "throw new E() or throw new E("a written text")". */
    private static void throwsAreWrittenOut(Check check, String text) {
        Matcher each = Pattern.compile("\\bthrow\\b[^;]*;").matcher(text);
        Pattern allowed = Pattern.compile("throw new (\\w+)\\((\"[^\"\\\\]*\")?\\);");
        while (each.find()) {
            Matcher one = allowed.matcher(each.group());
            check.same(each.group() + " is as allowed", one.matches() && EXCEPTIONS.contains(one.group(1)), true);
        }
    }

    /** Rule 11, but for the length of methods. */
    private static void sizes(Check check) {
        check.same("at most twelve classes", classes().size() <= 12, true);
        for (Class<?> one : classes()) {
            long fields = Arrays.stream(one.getDeclaredFields())
                    .filter(field -> !Modifier.isStatic(field.getModifiers())).count();
            check.same(one + " has at most twenty fields", fields <= 20, true);
            for (Method method : one.getDeclaredMethods()) {
                check.same(method + " has at most seven parameters", method.getParameterCount() <= 7, true);
            }
        }
    }

    /** Rule 11: "Methods stay short (some sixty lines)". A member ends with a brace that is indented as it is. */
    private static void methodsStayShort(Check check) throws IOException {
        List<String> lines = Files.readAllLines(SOURCE);
        for (String indent : List.of("    ", "        ")) {
            int start = -1;
            for (int i = 0; i < lines.size(); i++) {
                String line = lines.get(i);
                if (line.matches(indent + "\\S.*\\(.*")) {
                    start = i;
                } else if (line.equals(indent + "}") && start >= 0) {
                    check.same("short: " + lines.get(start).strip(), i - start < 60, true);
                    start = -1;
                }
            }
        }
    }

    /** Rule 12: "What a run makes is counted ... keep it small": what a desk holds does not grow with the calls. */
    private static void littleIsKept(Check check) throws IllegalAccessException {
        String held = held(new CommitDesk());
        CommitDesk desk = Desks.busy();
        check.same("objects and elements of a busy desk", held(desk), held);
        for (int n = 0; n < 60; n++) {
            desk.begin(5);
            desk.save(5);
            desk.write(5, n % 32, n);
            desk.keep(5);
            desk.done(5);
        }
        check.same("objects and elements after many calls", held(desk), held);
    }

    private static String held(CommitDesk desk) throws IllegalAccessException {
        Set<Object> seen = Collections.newSetFromMap(new IdentityHashMap<>());
        Deque<Object> waiting = new ArrayDeque<>(List.of(desk));
        int elements = 0;
        while (!waiting.isEmpty()) {
            Object one = waiting.pop();
            if (seen.add(one)) {
                List<Object> inside = inside(one);
                elements += inside.size();
                inside.stream().filter(LanguageTest::isHeldApart).forEach(waiting::push);
            }
        }
        return seen.size() + " objects, " + elements + " elements";
    }

    private static boolean isHeldApart(Object one) {
        return one != null && (one.getClass().isArray() || classes().contains(one.getClass()));
    }

    private static List<Object> inside(Object one) throws IllegalAccessException {
        List<Object> inside = new ArrayList<>();
        if (one.getClass().isArray()) {
            for (int i = 0; i < Array.getLength(one); i++) {
                inside.add(Array.get(one, i));
            }
            return inside;
        }
        for (Field field : one.getClass().getDeclaredFields()) {
            if (!Modifier.isStatic(field.getModifiers())) {
                field.setAccessible(true);
                inside.add(field.get(one));
            }
        }
        return inside;
    }
}
