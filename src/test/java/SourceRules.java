import java.io.IOException;
import java.lang.reflect.Constructor;
import java.lang.reflect.Field;
import java.lang.reflect.Method;
import java.lang.reflect.Modifier;
import java.nio.file.Files;
import java.nio.file.Path;
import java.util.ArrayList;
import java.util.HashSet;
import java.util.List;
import java.util.Set;
import java.util.TreeSet;
import java.util.regex.Matcher;
import java.util.regex.Pattern;

/** Looks whether src/main/java/Treeward.java keeps to the rules of LANGUAGE.md that can be seen. */
public final class SourceRules {
    private static final int MOST_CLASSES = 12;
    private static final int MOST_FIELDS = 20;
    private static final int MOST_PARAMETERS = 7;
    private static final int MOST_LINES = 60;
    private static final int MOST_CALLS = 8;
    private static int wrong = 0;

    private static void tell(String text) {
        wrong++;
        System.out.println(text);
    }

    private static List<Class<?>> classes() {
        List<Class<?>> all = new ArrayList<>();
        all.add(Treeward.class);
        for (Class<?> inner : Treeward.class.getDeclaredClasses()) {
            all.add(inner);
            if (!Modifier.isStatic(inner.getModifiers()) || Modifier.isPublic(inner.getModifiers())) {
                tell("rule 1 or 2: " + inner.getName());
            }
        }
        if (all.size() > MOST_CLASSES) {
            tell("rule 11: " + all.size() + " classes");
        }
        return all;
    }

    private static void lookAtMembers() {
        Set<String> open = new HashSet<>();
        for (Method method : Treeward.class.getDeclaredMethods()) {
            if (Modifier.isPublic(method.getModifiers())) {
                open.add(method.getName());
            } else if (!Modifier.isPrivate(method.getModifiers()) && !method.isSynthetic()) {
                tell("rule 1: " + method.getName());
            }
        }
        for (Class<?> one : classes()) {
            int fields = 0;
            for (Field field : one.getDeclaredFields()) {
                boolean isConstant = Modifier.isStatic(field.getModifiers());
                fields += isConstant ? 0 : 1;
                if (isConstant && !Modifier.isFinal(field.getModifiers())) {
                    tell("rule 5: " + field);
                }
                if (one == Treeward.class && !Modifier.isPrivate(field.getModifiers())) {
                    tell("rule 1: " + field);
                }
            }
            if (fields > MOST_FIELDS) {
                tell("rule 11: " + fields + " fields in " + one.getName());
            }
            for (Method method : one.getDeclaredMethods()) {
                if (method.getParameterCount() > MOST_PARAMETERS) {
                    tell("rule 11: " + method);
                }
                if (!Modifier.isPublic(method.getModifiers()) && open.contains(method.getName())) {
                    tell("rule 1: bears a public name: " + method);
                }
            }
            for (Constructor<?> made : one.getDeclaredConstructors()) {
                if (made.getParameterCount() > MOST_PARAMETERS) {
                    tell("rule 11: " + made);
                }
            }
        }
    }

    /** The source without its comments, its texts and its signs. */
    private static String bare(String source) {
        return source.replaceAll("(?s)/\\*.*?\\*/", "").replaceAll("//[^\n]*", "")
                .replaceAll("\"[^\"\n]*\"", "\"\"").replaceAll("'(\\\\.|[^'\n])'", "' '");
    }

    private static void lookAtWords(String bare) {
        String[] words = {"\\btry\\b", "\\bcatch\\b", "\\bfinally\\b", "\\bsynchronized\\b", "\\bassert\\b",
            "->", "::", "Exact\\s*\\(", "\\bpackage\\b", "\\bdouble\\b", "\\bfloat\\b", "Object\\b", "hashCode",
            "\\bequals\\b", "getClass", "String\\.", "\\bfor \\(;", "while \\(true", "import java(?!\\.util\\.Arrays;)",
            "\\+ \"\"", "\"\" \\+", "\\bthrow (?!new (IndexOutOfBounds|IllegalArgument|IllegalState)Exception\\(\\);)"};
        for (String word : words) {
            Matcher found = Pattern.compile(word).matcher(bare);
            if (found.find()) {
                tell("a word that the rules forbid: " + bare.substring(found.start(),
                        Math.min(bare.length(), found.start() + 40)));
            }
        }
    }

    private static void lookAtLengths(String source) {
        String[] lines = source.split("\n");
        int start = -1;
        for (int n = 0; n < lines.length; n++) {
            if (lines[n].matches("( {4}| {8})[A-Za-z].*[({,]") && !lines[n].contains(" class ")
                    && lines[n].contains("(") && start < 0) {
                start = n;
            } else if (lines[n].matches(" {4}\\}| {8}\\}")) {
                if (start >= 0 && n - start + 1 > MOST_LINES) {
                    tell("rule 11: " + (n - start + 1) + " lines: " + lines[start].trim());
                }
                start = -1;
            }
        }
    }

    /** Takes calls by their names alone, so it tells too many deep rather than too few. */
    private static void lookAtDepth(String bare) {
        List<String> names = new ArrayList<>();
        List<Set<String>> calls = new ArrayList<>();
        Pattern head = Pattern.compile("^( {4}| {8})(?:(?:public|private|static|final) )*[\\w\\[\\]]+ (\\w+)\\(");
        Set<String> known = new TreeSet<>();
        String[] lines = bare.split("\n");
        for (String line : lines) {
            Matcher found = head.matcher(line);
            if (found.find()) {
                known.add(found.group(2));
            }
        }
        for (String line : lines) {
            Matcher found = head.matcher(line);
            boolean isHead = found.find();
            if (isHead) {
                names.add(found.group(2));
                calls.add(new TreeSet<>());
            } else if (!names.isEmpty()) {
                Matcher call = Pattern.compile("(\\w+)\\(").matcher(line);
                while (call.find()) {
                    if (known.contains(call.group(1))) {
                        calls.get(calls.size() - 1).add(call.group(1));
                    }
                }
            }
        }
        for (int n = 0; n < names.size(); n++) {
            int depth = depth(names.get(n), names, calls, 0);
            if (depth > MOST_CALLS) {
                tell("rule 11: " + names.get(n) + " goes " + depth + " deep");
            }
        }
    }

    private static int depth(String name, List<String> names, List<Set<String>> calls, int above) {
        int most = 0;
        for (int n = 0; n < names.size() && above <= MOST_CALLS; n++) {
            if (names.get(n).equals(name)) {
                for (String next : calls.get(n)) {
                    most = Math.max(most, depth(next, names, calls, above + 1));
                }
            }
        }
        return most + 1;
    }

    public static void main(String[] args) throws IOException {
        String root = System.getProperty("project", ".");
        String source = Files.readString(Path.of(root, "src/main/java/Treeward.java"));
        lookAtMembers();
        lookAtWords(bare(source));
        lookAtLengths(source);
        lookAtDepth(bare(source));
        System.out.println(wrong == 0 ? "the rules that can be seen are kept" : wrong + " rules are not kept");
        if (wrong != 0) {
            System.exit(1);
        }
    }
}
