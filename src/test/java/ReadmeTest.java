import java.io.File;
import java.io.IOException;
import java.lang.invoke.MethodHandles;
import java.lang.reflect.Method;
import java.lang.reflect.Modifier;
import java.nio.file.Files;
import java.nio.file.Path;
import java.util.ArrayList;
import java.util.List;
import java.util.Set;
import java.util.TreeSet;
import java.util.regex.Matcher;
import java.util.regex.Pattern;
import javax.tools.ToolProvider;

/** What README.md says: its calls, in its own words compiled and made, and the way it tells to run the tests. */
public final class ReadmeTest {
    private static final Check check = new Check();

    /** A call that ends its line, or has behind it its answer, and behind that words or nothing. */
    private static final Pattern CALL = Pattern.compile("tree\\.(\\w+)\\(.*\\);(?: *// ([^:]+)(?::.*)?)?");
    private static final String NEW_TREE = "HashTree tree = new HashTree();";

    public static void main(String[] args) throws IOException, ReflectiveOperationException {
        List<String> readme = Files.readAllLines(Path.of("README.md"));
        callsAnswerWhatItSays(javaLines(readme));
        everyCallIsShown(javaLines(readme));
        testsRunByCi(readme);
        testsOfTheTable(readme);
        check.end();
    }

    /** All that stands in its blocks of Java, which go on with the same tree. */
    private static List<String> javaLines(List<String> readme) {
        List<String> lines = new ArrayList<>();
        boolean inside = false;
        for (String line : readme) {
            if (line.startsWith("```")) {
                inside = line.equals("```java");
            } else if (inside && !line.isBlank()) {
                lines.add(line.strip());
            }
        }
        return lines;
    }

    private static void callsAnswerWhatItSays(List<String> lines)
            throws IOException, ReflectiveOperationException {
        check.sentence("README: the calls answer what it says");
        StringBuilder body = new StringBuilder();
        for (String line : lines) {
            Matcher call = CALL.matcher(line);
            boolean isCall = call.matches();
            check.due("a call, or the new tree: " + line, isCall || line.equals(NEW_TREE), true);
            body.append(isCall ? asked(line, call.group(2)) : line).append('\n');
        }
        Class<?> calls = compiled("ReadmeCalls",
            "final class ReadmeCalls { static void make(Check check) {\n" + body + "} }\n");
        check.due("the calls compile", calls != null, true);
        if (calls != null) {
            Method make = calls.getDeclaredMethod("make", Check.class);
            make.setAccessible(true);
            make.invoke(null, check);
        }
    }

    private static String asked(String line, String answer) {
        String call = line.substring(0, line.indexOf(';'));
        return answer == null ? call + ";" : "check.due(\"" + call + "\", " + call + ", " + answer + ");";
    }

    /** The class, in the package of this one, so that it can use what the tests use; null if it is no Java. */
    private static Class<?> compiled(String name, String source) throws IOException, IllegalAccessException {
        Path folder = Files.createTempDirectory("readme");
        Path file = folder.resolve(name + ".java");
        Path made = folder.resolve(name + ".class");
        try {
            Files.writeString(file, source);
            ToolProvider.getSystemJavaCompiler().run(null, null, null,
                "-proc:none", "-cp", System.getProperty("java.class.path"), "-d", folder.toString(), file.toString());
            return Files.exists(made) ? MethodHandles.lookup().defineClass(Files.readAllBytes(made)) : null;
        } finally {
            Files.deleteIfExists(made);
            Files.deleteIfExists(file);
            Files.delete(folder);
        }
    }

    private static void everyCallIsShown(List<String> lines) {
        check.sentence("README: every call of the face is shown, with its answer if it has one");
        Set<String> shown = new TreeSet<>();
        for (String line : lines) {
            Matcher call = CALL.matcher(line);
            if (call.matches()) {
                shown.add(call.group(1) + (call.group(2) == null ? "" : " answers"));
            }
        }
        for (Method method : HashTree.class.getDeclaredMethods()) {
            if (Modifier.isPublic(method.getModifiers())) {
                String call = method.getName() + (method.getReturnType() == void.class ? "" : " answers");
                check.due("shows " + call, shown.contains(call), true);
            }
        }
        check.due("shows a new tree", lines.contains(NEW_TREE), true);
    }

    private static void testsRunByCi(List<String> readme) {
        check.sentence("README: the way to run the tests is .ci/run");
        List<String> commands = readme.stream().filter(line -> line.startsWith("    ")).map(String::strip).toList();
        check.due("its only command " + commands, commands.equals(List.of(".ci/run")), true);
        check.due("it can be run so", new File(".ci/run").canExecute(), true);
    }

    private static void testsOfTheTable(List<String> readme) {
        check.sentence("README: the table of tests names each of them");
        Set<String> named = new TreeSet<>();
        for (String line : readme) {
            Matcher row = Pattern.compile("\\| `(\\w+Test)` \\|.*").matcher(line);
            if (row.matches()) {
                named.add(row.group(1) + ".java");
            }
        }
        Set<String> there = new TreeSet<>(
            List.of(new File("src/test/java").list((folder, name) -> name.endsWith("Test.java"))));
        check.due("named " + named + ", there " + there, named.equals(there), true);
    }
}
