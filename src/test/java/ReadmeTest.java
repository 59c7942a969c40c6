import java.io.IOException;
import java.lang.reflect.Method;
import java.lang.reflect.Modifier;
import java.nio.file.Files;
import java.nio.file.Path;
import java.util.Set;
import java.util.TreeSet;
import java.util.regex.Matcher;
import java.util.regex.Pattern;

/** The example of README.md: its calls are read from the file, made, and answer as it says. */
public final class ReadmeTest {
    private static final Pattern CALL = Pattern.compile("planner\\.(\\w+)\\((.*)\\);\\s+// (\\S+)");

    public static void main(String[] args) throws IOException, ReflectiveOperationException {
        String readme = Files.readString(Path.of("README.md"));
        Set<String> called = new TreeSet<>();
        BoundsPlanner planner = new BoundsPlanner();
        for (String line : exampleOf(readme).split("\n")) {
            Matcher call = CALL.matcher(line);
            if (line.startsWith("planner.")) {
                Checks.due("a call with its answer: " + line, call.matches(), true);
            }
            if (call.matches()) {
                String answer = String.valueOf(answerOf(planner, call.group(1), call.group(2)));
                Checks.due(line + " answers " + answer, answer.equals(call.group(3)), true);
                called.add(call.group(1));
            }
        }
        for (Method method : BoundsPlanner.class.getDeclaredMethods()) {
            if (Modifier.isPublic(method.getModifiers())) {
                Checks.due("the example has " + method.getName(),
                        called.contains(method.getName()), true);
            }
        }
        Checks.due("how to run the tests", readme.contains("\n.ci/run\n"), true);
        Checks.finish("ReadmeTest");
    }

    private static String exampleOf(String readme) {
        int from = readme.indexOf("```java\n");
        int to = readme.indexOf("```\n", from + 1);
        return from < 0 || to < 0 ? "" : readme.substring(from, to);
    }

    private static Object answerOf(BoundsPlanner planner, String name, String arguments)
            throws ReflectiveOperationException {
        String[] words = arguments.isEmpty() ? new String[0] : arguments.split(", *");
        for (Method method : BoundsPlanner.class.getMethods()) {
            if (method.getName().equals(name) && method.getParameterCount() == words.length) {
                Object[] given = new Object[words.length];
                for (int i = 0; i < words.length; i++) {
                    boolean truth = method.getParameterTypes()[i] == boolean.class;
                    given[i] = truth ? (Object) Boolean.valueOf(words[i]) : (Object) number(words[i]);
                }
                return method.invoke(planner, given);
            }
        }
        return "no such call";
    }

    private static Integer number(String word) {
        return Long.decode(word).intValue();
    }
}
