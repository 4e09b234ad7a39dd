import java.io.IOException;
import java.nio.file.Files;
import java.nio.file.Path;
import java.util.Arrays;

/** Runs a test for each sentence of the document, and tells which words no test has named. */
abstract class Sentences {
    interface Test {
        void run();
    }

    interface Made {
        TillOptimists make();
    }

    interface Call {
        Object on(TillOptimists x);
    }

    interface Numbered {
        Object on(TillOptimists x, int number);
    }

    static final String INDEX = "IndexOutOfBoundsException";
    static final String ARGUMENT = "IllegalArgumentException";
    static final String STATE = "IllegalStateException";
    static final int LOW = Integer.MIN_VALUE;
    static final int HIGH = Integer.MAX_VALUE;

    private static final Path DOCUMENT = Path.of("..", "shared", "DOC.md");

    private static int wrong = 0;
    private static int tests = 0;
    private static int checks = 0;
    private static String section = "";
    private static String sentence = "";
    private static StringBuilder unnamed = new StringBuilder();
    private static String text = "";

    // ---- the sentences.

    /** From here on, the tests are of this section of the document. */
    static void in(String name) {
        tellUnnamed();
        section = name;
        text = sectionText(name);
        unnamed = new StringBuilder(text);
    }

    /** What follows is of these words, without being the test of their own. */
    static void about(String name, String words) {
        section = name;
        sentence = words;
    }

    /** A test of its own for these very words of the section. */
    static void holds(String words, Test test) {
        tests++;
        sentence = words;
        name(words);
        try {
            test.run();
        } catch (RuntimeException e) {
            fail("the test itself ended by " + e);
        }
    }

    /** These words of the section ask for nothing that a test could find broken at an edge. */
    static void namesNoEdge(String words) {
        sentence = words;
        name(words);
    }

    static void end() {
        tellUnnamed();
        System.out.println(tests + " sentences, " + checks + " checks, " + wrong + " wrong");
        if (wrong != 0) {
            System.exit(1);
        }
    }

    private static void name(String words) {
        int from = unnamed.indexOf(words);
        if (from < 0 && !text.contains(words)) {
            fail("the document does not say this here");
        }
        for (int i = 0; from >= 0 && i < words.length(); i++) {
            unnamed.setCharAt(from + i, ' ');
        }
    }

    private static void tellUnnamed() {
        for (String word : unnamed.toString().split("[^A-Za-z0-9]+")) {
            if (!word.isEmpty() && !word.equals("or") && !word.equals("and")) {
                sentence = "the whole of it";
                fail("no test names \"" + word + "\" of \"" + unnamed.toString().trim() + "\"");
                return;
            }
        }
    }

    /** The words of a section, without its heading, code of the face, and marks. */
    private static String sectionText(String name) {
        StringBuilder found = new StringBuilder();
        boolean inside = false;
        for (String line : documentLines()) {
            if (line.startsWith("## ")) {
                inside = line.equals("## " + name) || line.startsWith("## " + name + ":");
            } else if (inside) {
                found.append(line).append('\n');
            }
        }
        return found.toString()
            .replaceAll("(?s)```java.*?```", "")
            .replace("```text", "")
            .replaceAll("^\\s*`[^`]*`:", "")
            .replace("`", "")
            .replaceAll("\\s+", " ")
            .trim();
    }

    private static String[] documentLines() {
        try {
            return Files.readString(DOCUMENT).split("\n");
        } catch (IOException e) {
            fail("the document cannot be read: " + e);
            return new String[0];
        }
    }

    // ---- what is due.

    private static void fail(String what) {
        wrong++;
        System.out.println(section + ", \"" + sentence + "\": " + what);
    }

    static void due(String call, Object got, Object want) {
        checks++;
        if (!got.equals(want)) {
            fail(call + " answered " + got + ", due is " + want);
        }
    }

    static Object answer(TillOptimists x, Call call) {
        try {
            return call.on(x);
        } catch (RuntimeException e) {
            return e.getClass().getSimpleName();
        }
    }

    /** The call is refused by this exception. */
    static void throwing(String call, TillOptimists x, String want, Call made) {
        due(call, answer(x, made), want);
    }

    /** The call is refused by this exception, and no other call can tell that it was made. */
    static void refused(String call, Made made, String want, Call refusedCall) {
        due(call, answer(made.make(), refusedCall), want);
        changesNothing(call, made, refusedCall);
    }

    /** As refused(), with each of these numbers put into the call. */
    static void refusedWith(String call, Made made, String want, Numbered refusedCall, int... numbers) {
        for (int number : numbers) {
            refused(call.replace("#", Integer.toString(number)), made, want, x -> refusedCall.on(x, number));
        }
    }

    static void changesNothing(String call, Made made, Call asked) {
        String without = Told.all(made);
        String with = Told.all(() -> {
            TillOptimists x = made.make();
            answer(x, asked);
            return x;
        });
        checks++;
        if (!with.equals(without)) {
            fail(call + " changed what other calls tell");
        }
    }

    // ---- rows of answers.

    static void slipIs(TillOptimists x, int clerk, int drawer, int amount, int seal, int own) {
        due("slip(" + clerk + ", " + drawer + ", 0 to 2)",
            Arrays.asList(x.slip(clerk, drawer, 0), x.slip(clerk, drawer, 1), x.slip(clerk, drawer, 2)),
            Arrays.asList(amount, seal, own));
    }

    static void slipIsEmpty(TillOptimists x, int clerk) {
        for (int d = 0; d < x.count(0); d++) {
            slipIs(x, clerk, d, -1, -1, -1);
        }
        due("told(" + clerk + ", 4)", x.told(clerk, 4), 0);
        due("told(" + clerk + ", 5)", x.told(clerk, 5), 0);
    }

    static void drawerIs(TillOptimists x, int drawer, int amount, int seal) {
        due("drawer(" + drawer + ", 0 to 1)",
            Arrays.asList(x.drawer(drawer, 0), x.drawer(drawer, 1)), Arrays.asList(amount, seal));
    }

    static void toldIs(TillOptimists x, int clerk, Integer... want) {
        Integer[] got = new Integer[7];
        for (int what = 0; what < 7; what++) {
            got[what] = x.told(clerk, what);
        }
        due("told(" + clerk + ", 0 to 6)", Arrays.asList(got), Arrays.asList(want));
    }

    static void countIs(TillOptimists x, Integer... want) {
        Integer[] got = new Integer[7];
        for (int what = 0; what < 7; what++) {
            got[what] = x.count(what);
        }
        due("count(0 to 6)", Arrays.asList(got), Arrays.asList(want));
    }

    static void stepIs(TillOptimists x, int clerk, int place, int kind, int d, int e, int b) {
        due("step(" + clerk + ", " + place + ", 0 to 3)",
            Arrays.asList(x.step(clerk, place, 0), x.step(clerk, place, 1), x.step(clerk, place, 2),
                x.step(clerk, place, 3)),
            Arrays.asList(kind, d, e, b));
    }

    static void closingIs(TillOptimists x, int back, int closer, int written, int sum) {
        due("closing(" + back + ", 0 to 2)",
            Arrays.asList(x.closing(back, 0), x.closing(back, 1), x.closing(back, 2)),
            Arrays.asList(closer, written, sum));
    }

    static void turns(TillOptimists x, int clerk, int howMany) {
        for (int i = 0; i < howMany; i++) {
            x.turn(clerk);
        }
    }
}
