import java.io.IOException;
import java.lang.reflect.InvocationTargetException;
import java.lang.reflect.Method;
import java.nio.file.Files;
import java.nio.file.Path;
import java.util.HashMap;
import java.util.Map;
import java.util.Set;
import java.util.TreeSet;
import java.util.regex.Matcher;
import java.util.regex.Pattern;

/** Whether each call that README.md shows answers what stands behind it, and whether it names each call. */
public final class ReadmeTests {
    private static final Pattern CALL =
            Pattern.compile("(?:int (\\w+) = )?desk\\.(\\w+)\\((.*)\\); +// (\"[^\"]*\"|-?\\d+|true|false|a )(.*)");
    private static final Map<String, Integer> NAMES = new HashMap<>();
    private static int wrong = 0;
    private static int calls = 0;

    private static void tell(String text) {
        wrong++;
        System.out.println(text);
    }

    private static Method method(String name) {
        for (Method method : Treeward.class.getMethods()) {
            if (method.getName().equals(name) && method.getDeclaringClass() == Treeward.class) {
                return method;
            }
        }
        return null;
    }

    private static Object argument(String text) {
        if (text.equals("true") || text.equals("false")) {
            return Boolean.valueOf(text);
        }
        return NAMES.containsKey(text) ? NAMES.get(text) : Integer.valueOf(text);
    }

    private static void run(Treeward desk, String line) throws IllegalAccessException {
        Matcher found = CALL.matcher(line);
        Method method = found.matches() ? method(found.group(2)) : null;
        if (method == null) {
            tell("no call with its answer: " + line);
            return;
        }
        String[] texts = found.group(3).isEmpty() ? new String[0] : found.group(3).split(", ");
        Object[] arguments = new Object[texts.length];
        for (int n = 0; n < texts.length; n++) {
            arguments[n] = argument(texts[n]);
        }
        calls++;
        try {
            Object answer = method.invoke(desk, arguments);
            String told = answer instanceof String ? "\"" + answer + "\"" : String.valueOf(answer);
            if (!told.equals(found.group(4)) && !found.group(4).equals("a ")) {
                tell("answered " + told + ": " + line);
            }
            if (found.group(1) != null) {
                NAMES.put(found.group(1), (Integer) answer);
            }
        } catch (InvocationTargetException e) {
            tell("throws " + e.getCause() + ": " + line);
        }
    }

    private static void runBlocks(String[] lines) throws IllegalAccessException {
        Treeward desk = null;
        boolean isInside = false;
        for (String line : lines) {
            if (line.startsWith("```")) {
                isInside = line.equals("```java");
            } else if (isInside && line.equals("Treeward desk = new Treeward();")) {
                desk = new Treeward();
            } else if (isInside && desk != null) {
                run(desk, line);
            }
        }
    }

    private static void namesAllCalls(String readme) {
        Set<String> missing = new TreeSet<>();
        for (Method method : Treeward.class.getDeclaredMethods()) {
            if (java.lang.reflect.Modifier.isPublic(method.getModifiers())) {
                missing.add(method.getName());
            }
        }
        Matcher found = Pattern.compile("`(\\w+)`").matcher(readme);
        while (found.find()) {
            missing.remove(found.group(1));
        }
        if (!missing.isEmpty()) {
            tell("README.md does not name " + missing);
        }
    }

    public static void main(String[] args) throws IOException, IllegalAccessException {
        String readme = Files.readString(Path.of(System.getProperty("project", "."), "README.md"));
        runBlocks(readme.split("\n"));
        namesAllCalls(readme);
        if (calls == 0) {
            tell("README.md shows no call");
        }
        System.out.println(wrong == 0 ? calls + " calls of README.md answer as it says" : wrong + " are wrong");
        if (wrong != 0) {
            System.exit(1);
        }
    }
}
