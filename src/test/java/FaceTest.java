import java.io.IOException;
import java.lang.reflect.Constructor;
import java.lang.reflect.Field;
import java.lang.reflect.Method;
import java.lang.reflect.Modifier;
import java.nio.file.Files;
import java.nio.file.Path;
import java.util.ArrayList;
import java.util.Arrays;
import java.util.HashSet;
import java.util.List;
import java.util.Set;
import java.util.TreeSet;

/** The public face, the rules of the language that a look at the file can tell. */
public final class FaceTest {
    private static final List<String> FACE = List.of(
            "int feed(int, int, int, int, int)", "int index(int, int, int, int)",
            "boolean drop(int)", "int filter(int)", "int value(int)", "int many(int, int)",
            "int end(int, int, int, boolean, int)", "int inside(int, int)", "int rank(int)",
            "int ranges(int)", "int choose()");

    public static void main(String[] args) throws IOException {
        members();
        classesInside();
        source();
        Checks.finish("FaceTest");
    }

    private static void members() {
        Class<?> c = BoundsPlanner.class;
        Checks.due("public final", c.getModifiers(), Modifier.PUBLIC | Modifier.FINAL);
        Set<String> seen = new TreeSet<>();
        Set<String> names = new HashSet<>();
        for (String method : FACE) {
            names.add(method.substring(method.indexOf(' ') + 1, method.indexOf('(')));
        }
        for (Method m : c.getDeclaredMethods()) {
            if (Modifier.isPrivate(m.getModifiers())) {
                Checks.due("private " + m.getName(), names.contains(m.getName()), false);
                continue;
            }
            List<String> types = new ArrayList<>();
            for (Class<?> type : m.getParameterTypes()) {
                types.add(type.getSimpleName());
            }
            seen.add(m.getReturnType() + " " + m.getName() + "(" + String.join(", ", types) + ")");
            Checks.due("public " + m, m.getModifiers(), Modifier.PUBLIC);
        }
        Checks.due("the face: " + seen, seen.equals(new TreeSet<>(FACE)), true);
        Constructor<?>[] made = c.getDeclaredConstructors();
        Checks.due("one constructor", made.length, 1);
        Checks.due("public constructor", made[0].getModifiers(), Modifier.PUBLIC);
        Checks.due("without parameters", made[0].getParameterCount(), 0);
        for (Field f : c.getDeclaredFields()) {
            Checks.due("private " + f, Modifier.isPrivate(f.getModifiers()), true);
        }
    }

    private static void classesInside() {
        Class<?>[] inside = BoundsPlanner.class.getDeclaredClasses();
        Checks.due("at most twelve classes", inside.length < 12, true);
        for (Class<?> c : inside) {
            int m = c.getModifiers();
            Checks.due("static " + c, Modifier.isStatic(m), true);
            Checks.due("not public " + c, Modifier.isPublic(m) || Modifier.isProtected(m), false);
            for (Field f : c.getDeclaredFields()) {
                boolean fixed = !Modifier.isStatic(f.getModifiers()) || Modifier.isFinal(f.getModifiers());
                Checks.due("static is final: " + f, fixed, true);
            }
            for (Method method : c.getDeclaredMethods()) {
                Checks.due("at most seven: " + method, method.getParameterCount() <= 7, true);
            }
        }
    }

    private static void source() throws IOException {
        String text = Files.readString(Path.of("src/main/java/BoundsPlanner.java"));
        String code = text.replaceAll("(?s)/\\*.*?\\*/", " ").replaceAll("//[^\n]*", " ");
        Set<String> words = new HashSet<>(Arrays.asList(code.split("\\W+")));
        String[] forbidden = {
            "throw", "throws", "try", "catch", "synchronized", "assert", "package", "protected",
            "Random", "Thread", "Object", "hashCode", "Exception", "volatile",
        };
        for (String word : forbidden) {
            Checks.due("the word " + word, words.contains(word), false);
        }
        Checks.due("of System only arraycopy", code.matches("(?s).*\\bSystem\\b(?!\\.arraycopy\\().*"), false);
        Checks.due("no lambda, no method reference", code.contains("->") || code.contains("::"), false);
        for (String line : code.split("\n")) {
            if (line.startsWith("import ")) {
                boolean known = line.equals("import java.util.ArrayList;")
                        || line.equals("import java.util.Arrays;");
                Checks.due(line, known, true);
            }
        }
    }
}
