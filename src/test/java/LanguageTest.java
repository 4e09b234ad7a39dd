import java.io.IOException;
import java.lang.reflect.Field;
import java.lang.reflect.Method;
import java.lang.reflect.Modifier;
import java.nio.file.Files;
import java.nio.file.Path;
import java.util.ArrayList;
import java.util.Arrays;
import java.util.List;
import java.util.Map;
import java.util.Set;
import java.util.TreeMap;
import java.util.TreeSet;
import java.util.regex.Matcher;
import java.util.regex.Pattern;

/** The rules of LANGUAGE.md that a look at the source and at the class can tell. */
public final class LanguageTest {
    private static final Path SOURCE = Path.of("src", "main", "java", "TillOptimists.java");
    private static final int MOST_LINES = 60;
    private static final int MOST_TAKEN = 7;
    private static final int MOST_CLASSES = 12;
    private static final int MOST_FIELDS = 20;
    private static final int MOST_DEEP = 8;
    // Of what class that is which the source calls by these names.
    private static final Map<String, String> OBJECTS = Map.of("now", "Shop", "trial", "Shop", "clerks", "Clerk",
        "worker", "Clerk", "writer", "Clerk", "reader", "Clerk", "Math", "Math");

    private static int wrong = 0;

    private static void must(boolean holds, String rule) {
        if (!holds) {
            wrong++;
            System.out.println("LANGUAGE.md, " + rule);
        }
    }

    /** The source without its comments and without what stands in texts. */
    private static String code() {
        try {
            return Files.readString(SOURCE).replaceAll("(?s)/\\*.*?\\*/", "").replaceAll("//[^\n]*", "")
                .replaceAll("\"[^\"\n]*\"", "\"\"");
        } catch (IOException e) {
            must(false, "the source can be read: " + e);
            return "";
        }
    }

    private static Set<String> found(String code, String pattern) {
        Set<String> all = new TreeSet<>();
        Matcher m = Pattern.compile(pattern).matcher(code);
        while (m.find()) {
            all.add(m.group());
        }
        return all;
    }

    private static void only(String code, String pattern, String rule, String... allowed) {
        Set<String> others = found(code, pattern);
        others.removeAll(Arrays.asList(allowed));
        must(others.isEmpty(), rule + ": " + others);
    }

    private static void checkWords(String code) {
        must(found(code, "\\b(package|import)\\b").isEmpty(), "rule 1: no package and no import");
        must(found(code, "->|::").isEmpty(), "rule 2: no lambda, no method reference");
        must(found(code, "\\b(finally|synchronized|assert|instanceof|try|catch|native|volatile)\\b").isEmpty(),
            "rule 6: none of these words");
        must(found(code, "static\\s*\\{").isEmpty(), "rule 5: no static initialiser block");
        must(found(code, "\"\"\\s*\\+|\\+\\s*\"\"").isEmpty(), "rule 10: texts are not joined by +");
        only(code, "\\b[A-Z][a-z]\\w*", "rules 3, 4 and 6: other classes", "TillOptimists", "Clerk", "Shop", "Math",
            "IllegalArgumentException", "IndexOutOfBoundsException", "IllegalStateException");
        only(code, "Math\\.\\w+", "rule 4: other functions", "Math.min", "Math.max", "Math.abs");
        only(code, "throw [^;]*", "rule 6: other throws", "throw new IllegalArgumentException(\"\")",
            "throw new IndexOutOfBoundsException(\"\")", "throw new IllegalStateException(\"\")");
        must(found(code, "\\bwhile\\b|for \\([^;]*;\\s*;").isEmpty(), "rule 9: each loop counts to a bound");
    }

    private static void checkLengths(String code) {
        Pattern head = Pattern.compile("( {4}| {8})(public|private)[^;=]*\\(.*");
        String[] lines = code.split("\n");
        for (int i = 0; i < lines.length; i++) {
            Matcher m = head.matcher(lines[i]);
            if (m.matches()) {
                int end = i;
                while (end < lines.length && !lines[end].equals(m.group(1) + "}")) {
                    end++;
                }
                must(end - i < MOST_LINES, "rule 11: a long method: " + lines[i].trim());
            }
        }
    }

    /** The bodies of all methods, by their class and name, as Clerk.read. */
    private static Map<String, String> bodies(String code) {
        Pattern head = Pattern.compile("( {4}| {8})(?:public|private)[^;={]* (\\w+)\\(.*");
        Pattern inside = Pattern.compile(" {4}private static final class (\\w+) \\{");
        Map<String, String> found = new TreeMap<>();
        String[] lines = code.split("\n");
        String place = "TillOptimists";
        for (int i = 0; i < lines.length; i++) {
            Matcher opened = inside.matcher(lines[i]);
            place = opened.matches() ? opened.group(1) : place;
            Matcher m = head.matcher(lines[i]);
            if (m.matches()) {
                StringBuilder body = new StringBuilder(lines[i].substring(m.end(2)));
                while (++i < lines.length && !lines[i].equals(m.group(1) + "}")) {
                    body.append(lines[i]).append('\n');
                }
                must(found.put(place + "." + m.group(2), body.toString()) == null, "two methods of one name");
            }
        }
        return found;
    }

    private static Set<String> called(Map<String, String> bodies, String method) {
        Set<String> all = new TreeSet<>();
        Matcher m = Pattern.compile("(?:(\\w+)(?:\\[\\w+\\])?\\.)?\\b([a-z]\\w*)\\(").matcher(bodies.get(method));
        while (m.find()) {
            String on = m.group(1) == null ? method.substring(0, method.indexOf('.')) : OBJECTS.get(m.group(1));
            must(on != null, "nobody knows what " + m.group() + ") is called on");
            if (on != null && bodies.containsKey(on + "." + m.group(2))) {
                all.add(on + "." + m.group(2));
            }
        }
        return all;
    }

    private static int depth(Map<String, String> bodies, String method, int above) {
        if (above >= MOST_DEEP) {
            must(false, "rule 11: calls are too deep at " + method);
            return above;
        }
        int deepest = above + 1;
        for (String next : called(bodies, method)) {
            deepest = Math.max(deepest, depth(bodies, next, above + 1));
        }
        return deepest;
    }

    private static void checkDepth(String code) {
        Map<String, String> bodies = bodies(code);
        int deepest = 0;
        for (Method m : TillOptimists.class.getDeclaredMethods()) {
            String method = "TillOptimists." + m.getName();
            must(bodies.containsKey(method), "the source of " + method + " can be found");
            deepest = Math.max(deepest, bodies.containsKey(method) ? depth(bodies, method, 0) : 0);
        }
        must(deepest > 4, "rule 11: calls of more than " + deepest + " deep are there, but not found");
    }

    private static List<Class<?>> classes() {
        List<Class<?>> all = new ArrayList<>();
        all.add(TillOptimists.class);
        all.addAll(Arrays.asList(TillOptimists.class.getDeclaredClasses()));
        return all;
    }

    private static boolean isPlain(Class<?> type) {
        return type == int.class || type == long.class || type == boolean.class || type == char.class
            || type == String.class;
    }

    private static void checkClass(Class<?> one) {
        int fields = 0;
        for (Field f : one.getDeclaredFields()) {
            boolean fixed = Modifier.isStatic(f.getModifiers());
            fields += fixed ? 0 : 1;
            must(!fixed || (Modifier.isFinal(f.getModifiers()) && isPlain(f.getType())), "rule 5: " + f);
        }
        must(fields <= MOST_FIELDS, "rule 11: " + fields + " fields in " + one);
        for (Method m : one.getDeclaredMethods()) {
            must(m.getParameterCount() <= MOST_TAKEN, "rule 11: too many parameters: " + m);
        }
    }

    public static void main(String[] args) {
        String code = code();
        checkWords(code);
        checkLengths(code);
        checkDepth(code);
        must(classes().size() <= MOST_CLASSES, "rule 11: too many classes");
        for (Class<?> one : classes()) {
            checkClass(one);
        }
        System.out.println(wrong == 0 ? "the language is kept to" : wrong + " wrong");
        if (wrong != 0) {
            System.exit(1);
        }
    }
}
