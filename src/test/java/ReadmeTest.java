import java.io.IOException;
import java.lang.reflect.Method;
import java.nio.file.Files;
import java.nio.file.Path;
import java.util.ArrayList;
import java.util.List;
import java.util.regex.Matcher;
import java.util.regex.Pattern;
import java.util.stream.Collectors;
import java.util.stream.Stream;
import javax.tools.ToolProvider;

/** What README.md shows of the class is so, and it leaves out no call and no test. */
public final class ReadmeTest {
    private static final Path PAGE = Path.of("README.md");
    private static final Pattern SHOWN = Pattern.compile("(x\\.\\w+\\(.*?\\)); +// ([-\\w.]+)[:;,]? ?.*");

    private static int wrong = 0;
    private static int shown = 0;

    private static void must(boolean holds, String what) {
        if (!holds) {
            wrong++;
            System.out.println("README.md: " + what);
        }
    }

    /** The lines between ```java and ``` on the page. */
    private static List<String> program(String page) {
        List<String> lines = new ArrayList<>();
        Matcher block = Pattern.compile("(?s)```java\n(.*?)```").matcher(page);
        while (block.find()) {
            lines.addAll(List.of(block.group(1).split("\n")));
        }
        return lines;
    }

    /** A class that makes the page's calls in their order and tells each answer that is not the one beside it. */
    private static String written(List<String> program) {
        StringBuilder code = new StringBuilder("public final class Shown { public static int run() { int wrong = 0;\n");
        for (String line : program) {
            Matcher m = SHOWN.matcher(line);
            if (m.matches()) {
                shown++;
                code.append("{ String got = String.valueOf(").append(m.group(1)).append("); if (!got.equals(\"")
                    .append(m.group(2)).append("\")) { wrong++; System.out.println(\"README.md: ").append(m.group(1))
                    .append(" answered \" + got + \", but the page says ").append(m.group(2)).append("\"); } }\n");
            } else {
                must(line.startsWith("TillOptimists x = new TillOptimists();"), "not a call with its answer: " + line);
                code.append(line).append('\n');
            }
        }
        return code.append("return wrong; } }\n").toString();
    }

    private static void runProgram(String page) throws IOException, ReflectiveOperationException {
        Path place = Files.createTempDirectory("shown");
        Path source = place.resolve("Shown.java");
        Files.writeString(source, written(program(page)));
        String classes = System.getProperty("java.class.path");
        int failed = ToolProvider.getSystemJavaCompiler()
            .run(null, null, null, "-cp", classes, "-d", place.toString(), source.toString());
        must(failed == 0, "its program does not compile");
        if (failed == 0) {
            wrong += (Integer) new Loader(place).loadClass("Shown").getMethod("run").invoke(null);
        }
        Files.deleteIfExists(place.resolve("Shown.class"));
        Files.deleteIfExists(source);
        Files.deleteIfExists(place);
    }

    private static final class Loader extends ClassLoader {
        private final Path place;

        private Loader(Path place) {
            super(ReadmeTest.class.getClassLoader());
            this.place = place;
        }

        @Override
        protected Class<?> findClass(String name) throws ClassNotFoundException {
            try {
                byte[] code = Files.readAllBytes(place.resolve(name + ".class"));
                return defineClass(name, code, 0, code.length);
            } catch (IOException e) {
                throw new ClassNotFoundException(name, e);
            }
        }
    }

    private static void namesAll(String page) throws IOException {
        for (Method m : TillOptimists.class.getDeclaredMethods()) {
            if (java.lang.reflect.Modifier.isPublic(m.getModifiers())) {
                must(Pattern.compile("\\| `" + m.getName() + "\\((\\w+(, )?){" + m.getParameterCount() + "}\\)` \\|")
                    .matcher(page).find(), "does not name " + m.getName() + "()");
            }
        }
        try (Stream<Path> tests = Files.list(Path.of("src", "test", "java"))) {
            for (Path test : tests.collect(Collectors.toList())) {
                must(page.contains(test.getFileName().toString()), "does not name " + test);
            }
        }
    }

    public static void main(String[] args) throws IOException, ReflectiveOperationException {
        String page = Files.readString(PAGE);
        runProgram(page);
        must(shown >= 20, "shows only " + shown + " calls");
        namesAll(page);
        System.out.println(shown + " calls shown, " + wrong + " wrong");
        if (wrong != 0) {
            System.exit(1);
        }
    }
}
