import java.io.IOException;
import java.lang.reflect.Executable;
import java.lang.reflect.InvocationTargetException;
import java.lang.reflect.Method;
import java.nio.file.Files;
import java.nio.file.Path;
import java.util.ArrayList;
import java.util.List;
import java.util.Set;
import java.util.TreeSet;
import java.util.regex.Matcher;
import java.util.regex.Pattern;

/** README.md names every method of the face as it is, and its examples answer what it says. */
public final class ReadmeTest {
    private static final String NEW_DESK = "CommitDesk desk = new CommitDesk();";
    private static final Pattern CALL = Pattern.compile("desk\\.(\\w+)\\(([^)]*)\\);(?: *// (.*))?");

    private final Check check = new Check();
    private final Set<String> called = new TreeSet<>();
    private CommitDesk desk = new CommitDesk();

    public static void main(String[] args) throws IOException, IllegalAccessException {
        List<String> lines = Files.readAllLines(Path.of("README.md"));
        ReadmeTest test = new ReadmeTest();
        test.everyMethodHasAnEntry(lines);
        test.examplesAnswerAsSaid(lines);
        test.examplesCallEveryMethod();
        test.everyTestIsListed(String.join("\n", lines));
        test.check.end();
    }

    private void everyMethodHasAnEntry(List<String> lines) {
        List<String> entries = new ArrayList<>();
        for (String line : lines) {
            entries.add(line.replaceFirst("^- `(.*?\\))`:.*", "$1"));
        }
        check.same("an entry for CommitDesk()", entries.contains("CommitDesk()"), true);
        for (Method method : face()) {
            Pattern entry = Pattern.compile(method.getReturnType() + " " + method.getName()
                    + "\\(" + parameters(method) + "\\)");
            check.same("an entry for " + entry, entries.stream().anyMatch(entry.asMatchPredicate()), true);
        }
    }

    private static String parameters(Executable method) {
        List<String> parameters = new ArrayList<>();
        for (Class<?> type : method.getParameterTypes()) {
            parameters.add(type + " \\w+");
        }
        return String.join(", ", parameters);
    }

    private static List<Method> face() {
        List<Method> face = new ArrayList<>();
        for (Method method : CommitDesk.class.getMethods()) {
            if (method.getDeclaringClass() == CommitDesk.class) {
                face.add(method);
            }
        }
        return face;
    }

    private void examplesAnswerAsSaid(List<String> lines) throws IllegalAccessException {
        boolean inExample = false;
        for (String line : lines) {
            if (line.startsWith("```")) {
                inExample = line.equals("```java");
            } else if (inExample && !line.isEmpty()) {
                runLine(line);
            }
        }
    }

    private void runLine(String line) throws IllegalAccessException {
        if (line.equals(NEW_DESK)) {
            desk = new CommitDesk();
            return;
        }
        Matcher call = CALL.matcher(line);
        check.same("a call: " + line, call.matches(), true);
        if (!call.matches()) {
            return;
        }
        called.add(call.group(1));
        Method method = methodOf(call.group(1));
        String said = call.group(3) == null ? "" : call.group(3);
        String got = answer(method, argumentsOf(method, call.group(2).split(", ")));
        check.same(line, got, dueOf(method, said));
    }

    /** The answer stands before the colon; behind a method that answers nothing all but "throws" is an explanation. */
    private static String dueOf(Method method, String said) {
        boolean answers = method.getReturnType() != void.class || said.startsWith("throws ");
        return answers ? said.split(":")[0] : "nothing";
    }

    private static Method methodOf(String name) {
        for (Method method : face()) {
            if (method.getName().equals(name)) {
                return method;
            }
        }
        throw new IllegalArgumentException("README.md calls " + name);
    }

    private static Object[] argumentsOf(Method method, String[] texts) {
        Object[] arguments = new Object[texts.length];
        for (int i = 0; i < texts.length; i++) {
            if (method.getParameterTypes()[i] == int.class) {
                arguments[i] = Integer.valueOf(texts[i]);
            } else {
                arguments[i] = Long.valueOf(texts[i]);
            }
        }
        return arguments;
    }

    private String answer(Method method, Object[] arguments) throws IllegalAccessException {
        try {
            Object answer = method.invoke(desk, arguments);
            return method.getReturnType() == void.class ? "nothing" : answer.toString();
        } catch (InvocationTargetException e) {
            return "throws " + e.getCause().getClass().getSimpleName();
        }
    }

    private void examplesCallEveryMethod() {
        for (Method method : face()) {
            check.same("an example calls " + method.getName(), called.contains(method.getName()), true);
        }
    }

    private void everyTestIsListed(String readme) throws IOException {
        try (var files = Files.list(Path.of("src/test/java"))) {
            for (Path file : files.toList()) {
                String name = file.getFileName().toString().replace(".java", "");
                boolean listed = readme.contains("`" + name + "`") || readme.contains("`" + name + ".java`");
                check.same("README.md names " + name, listed || name.matches("Promise(0[2-9]|1[0-3]).*"), true);
            }
        }
    }
}
