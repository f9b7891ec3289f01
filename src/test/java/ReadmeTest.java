import java.io.File;
import java.io.IOException;
import java.lang.reflect.Method;
import java.lang.reflect.Modifier;
import java.net.URL;
import java.net.URLClassLoader;
import java.nio.file.Files;
import java.nio.file.Path;
import java.util.ArrayList;
import java.util.Arrays;
import java.util.HashSet;
import java.util.List;
import java.util.Set;
import java.util.function.Supplier;
import java.util.regex.Matcher;
import java.util.regex.Pattern;
import javax.tools.JavaCompiler;
import javax.tools.ToolProvider;

/**
 * What README.md says is so: the calls that it shows answer what stands behind them, the tests that it
 * names are there, and no test is left out.
 */
public final class ReadmeTest {
    private static final Check check = new Check();
    private static final Pattern SHOWN =
        Pattern.compile("(?:int (\\w+) = )?(watch\\.(\\w+)\\([^;]*\\)); *// (-?\\d+|true|false): .+");
    private static final Pattern NAMED = Pattern.compile("`(\\w+Test)?(?:\\.(\\w+))?`");
    private static final String FIRST_LINE = "OverLine watch = new OverLine();";

    public static void main(String[] args) throws IOException, ReflectiveOperationException {
        List<String> lines = Files.readAllLines(Path.of("README.md"));
        shownCalls(blockOf(lines));
        namedTests(lines);
        allTestsAreNamed(lines);
        check.end();
    }

    private static List<String> blockOf(List<String> lines) {
        int from = lines.indexOf("```java");
        check.due("README shows a use", from >= 0, true);
        check.due("README shows one use", lines.lastIndexOf("```java"), from);
        List<String> rest = lines.subList(from + 1, lines.size());
        return rest.subList(0, rest.indexOf("```"));
    }

    private static void shownCalls(List<String> block) throws IOException, ReflectiveOperationException {
        List<Matcher> shown = new ArrayList<>();
        Set<String> names = new HashSet<>();
        check.due("README begins with a new object", block.get(0).equals(FIRST_LINE), true);
        for (String line : block.subList(1, block.size())) {
            if (line.isEmpty() || line.startsWith("//")) {
                continue;
            }
            Matcher call = SHOWN.matcher(line);
            boolean answered = call.matches();
            check.due("a call with its answer: " + line, answered, true);
            if (answered) {
                shown.add(call);
                names.add(call.group(3));
            }
        }
        for (Method method : OverLine.class.getDeclaredMethods()) {
            if (Modifier.isPublic(method.getModifiers())) {
                check.due("README shows " + method.getName(), names.contains(method.getName()), true);
            }
        }
        List<String> answers = answersOf(shown);
        for (int i = 0; i < shown.size(); i++) {
            String call = shown.get(i).group(2);
            String told = shown.get(i).group(4);
            check.due(call + " answered " + answers.get(i) + ", README says " + told, answers.get(i).equals(told), true);
        }
    }

    private static String sourceOf(List<Matcher> shown) {
        StringBuilder source = new StringBuilder("import java.util.*;\n");
        source.append("public final class Use implements java.util.function.Supplier<List<String>> {\n");
        source.append("public List<String> get() {\nList<String> answers = new ArrayList<>();\n");
        source.append(FIRST_LINE).append('\n');
        for (Matcher call : shown) {
            String asked = call.group(2);
            if (call.group(1) != null) {
                source.append("int ").append(call.group(1)).append(" = ").append(asked).append(";\n");
                asked = call.group(1);
            }
            source.append("answers.add(String.valueOf(").append(asked).append("));\n");
        }
        return source.append("return answers;\n}\n}\n").toString();
    }

    /** Compiled as a user's would be, so that nothing but the README's own words decides what is called. */
    private static List<String> answersOf(List<Matcher> shown) throws IOException, ReflectiveOperationException {
        Path room = Files.createTempDirectory("readme");
        Path source = room.resolve("Use.java");
        try {
            Files.writeString(source, sourceOf(shown));
            JavaCompiler compiler = ToolProvider.getSystemJavaCompiler();
            String classes = System.getProperty("java.class.path");
            int code = compiler.run(null, null, null, "-cp", classes, "-d", room.toString(), source.toString());
            check.due("README's use compiles", code, 0);
            return ask(room);
        } finally {
            for (File file : room.toFile().listFiles()) {
                Files.delete(file.toPath());
            }
            Files.delete(room);
        }
    }

    private static List<String> ask(Path room) throws IOException, ReflectiveOperationException {
        List<String> answers = new ArrayList<>();
        try (URLClassLoader loader = new URLClassLoader(new URL[] {room.toUri().toURL()})) {
            Supplier<?> use = (Supplier<?>) loader.loadClass("Use").getDeclaredConstructor().newInstance();
            for (Object answer : (List<?>) use.get()) {
                answers.add((String) answer);
            }
        }
        return answers;
    }

    /** In a row, a name that begins with a point is a method of the test named before it. */
    private static void namedTests(List<String> lines) {
        for (String line : lines) {
            String test = null;
            Matcher named = NAMED.matcher(line);
            while (named.find()) {
                test = named.group(1) == null ? test : named.group(1);
                if (test != null) {
                    check.due("README names " + test + " " + named.group(2), isThere(test, named.group(2)), true);
                }
            }
        }
    }

    private static boolean isThere(String test, String method) {
        try {
            Method[] methods = Class.forName(test).getDeclaredMethods();
            return method == null || Arrays.stream(methods).anyMatch(each -> each.getName().equals(method));
        } catch (ClassNotFoundException missing) {
            return false;
        }
    }

    private static void allTestsAreNamed(List<String> lines) {
        for (String file : Path.of("src/test/java").toFile().list()) {
            String name = file.replace(".java", "");
            if (name.endsWith("Test")) {
                boolean named = lines.stream().anyMatch(line -> line.startsWith("| `" + name + "` |"));
                check.due("README names " + name, named, true);
            } else {
                boolean named = lines.stream().anyMatch(line -> line.contains("`" + name + "`"));
                check.due("README names " + name, named, true);
            }
        }
    }
}
