import java.io.IOException;
import java.lang.reflect.Constructor;
import java.lang.reflect.Field;
import java.lang.reflect.Method;
import java.lang.reflect.Modifier;
import java.nio.file.Files;
import java.nio.file.Path;
import java.util.Arrays;
import java.util.List;
import java.util.Set;
import java.util.TreeSet;

/** The public face of the document, and what LANGUAGE.md rules out by its name alone. */
public final class FaceTest {
    private static final Check check = new Check();

    private static final List<String> FACE = List.of(
        "int thing(int)", "int see(int, int, int, int)", "boolean back(int)", "int jumps(int)",
        "int where(int, int, int)", "int ground()", "int draw(int, int, int, boolean)",
        "boolean has(int, int)", "int state(int, int, int)", "int entered(int, int, int, int)",
        "int stay(int, int, int, int, int)", "int look(int, int, int, int)",
        "int apart(int, int, int, int)", "int count(int)");

    private static final List<String> RULED_OUT = List.of(
        "\\b(throw|throws|try|catch|synchronized|assert|import|package|native|volatile)\\b",
        "->", "::", "Exact\\b", "\\bSystem\\.(?!arraycopy)", "\\b(Random|Thread|Object|Map|Set)\\b",
        "\\b(hashCode|toString|equals)\\b", "static\\s*\\{");

    public static void main(String[] args) throws IOException {
        members();
        constants();
        privateNames();
        source();
        check.end();
    }

    private static void members() {
        check.due("final", Modifier.isFinal(OverLine.class.getModifiers()), true);
        check.due("public", Modifier.isPublic(OverLine.class.getModifiers()), true);
        Constructor<?>[] made = OverLine.class.getDeclaredConstructors();
        check.due("constructors", made.length, 1);
        check.due("public constructor", Modifier.isPublic(made[0].getModifiers()), true);
        check.due("constructor's parameters", made[0].getParameterCount(), 0);
        Set<String> open = new TreeSet<>();
        for (Method method : OverLine.class.getDeclaredMethods()) {
            if (method.isSynthetic() || Modifier.isPrivate(method.getModifiers())) {
                continue;
            }
            check.due("no static " + method, Modifier.isStatic(method.getModifiers()), false);
            check.due("public " + method, Modifier.isPublic(method.getModifiers()), true);
            String types = Arrays.toString(method.getParameterTypes());
            open.add(method.getReturnType() + " " + method.getName() + "(" + types.substring(1, types.length() - 1) + ")");
        }
        check.due("face " + open, open.equals(new TreeSet<>(FACE)), true);
    }

    private static void constants() {
        for (Field field : OverLine.class.getDeclaredFields()) {
            int how = field.getModifiers();
            check.due("private but for NONE: " + field, Modifier.isPrivate(how), !field.getName().equals("NONE"));
            check.due("static is final: " + field, Modifier.isStatic(how) && !Modifier.isFinal(how), false);
        }
        check.due("NONE", OverLine.NONE, -1);
    }

    private static void privateNames() {
        Set<String> open = new TreeSet<>();
        for (String signature : FACE) {
            open.add(signature.substring(signature.indexOf(' ') + 1, signature.indexOf('(')));
        }
        Class<?>[] inside = OverLine.class.getDeclaredClasses();
        check.due("at most twelve classes", inside.length <= 11, true);
        for (Class<?> each : inside) {
            check.due("static " + each, Modifier.isStatic(each.getModifiers()), true);
            check.due("at most twenty fields " + each, each.getDeclaredFields().length <= 20, true);
            for (Method method : each.getDeclaredMethods()) {
                check.due("a name of its own: " + method, open.contains(method.getName()), false);
                check.due("at most seven parameters: " + method, method.getParameterCount() <= 7, true);
            }
            for (Constructor<?> made : each.getDeclaredConstructors()) {
                check.due("at most seven parameters: " + made, made.getParameterCount() <= 7, true);
            }
        }
        for (Method method : OverLine.class.getDeclaredMethods()) {
            if (Modifier.isPrivate(method.getModifiers())) {
                check.due("a name of its own: " + method, open.contains(method.getName()), false);
            }
        }
    }

    private static void source() throws IOException {
        String text = Files.readString(Path.of("src/main/java/OverLine.java"));
        String code = text.replaceAll("(?s)/\\*.*?\\*/", "").replaceAll("//[^\n]*", "");
        for (String word : RULED_OUT) {
            check.due("source is without " + word, code.split(word, -1).length - 1, 0);
        }
    }
}
