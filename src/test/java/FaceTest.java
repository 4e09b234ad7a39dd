import java.io.IOException;
import java.lang.reflect.Constructor;
import java.lang.reflect.Field;
import java.lang.reflect.Method;
import java.lang.reflect.Modifier;
import java.nio.file.Files;
import java.nio.file.Path;
import java.util.Arrays;
import java.util.HashSet;
import java.util.Set;
import java.util.TreeSet;

/** The face of the class is that of the document, and nothing else can be seen of it. */
public final class FaceTest {
    private static final String I = "IndexOutOfBoundsException";
    private static final String A = "IllegalArgumentException";
    private static final String S = "IllegalStateException";

    private static final String[] FACE = {
        "int till(int) " + A,
        "int pay(int,int) " + I + " " + A,
        "int clerk() " + S,
        "int say(int,int,int,int,int) " + I + " " + A + " " + S,
        "int turn(int) " + I + " " + S,
        "int drop(int) " + I,
        "int pass(int) " + A,
        "int drawer(int,int) " + I,
        "int told(int,int) " + I,
        "int slip(int,int,int) " + I,
        "int step(int,int,int) " + I,
        "int closing(int,int) " + I,
        "boolean clash(int,int) " + I,
        "int count(int) " + I,
        "int alone(int,int) " + I,
        "int until()",
        "int foresee(int,int) " + A + " " + I,
        "int advise()",
        "double mean()",
        "long digest()",
    };

    private static int wrong = 0;

    private static void must(boolean holds, String what) {
        if (!holds) {
            wrong++;
            System.out.println("not so: " + what);
        }
    }

    private static String written(Method m) {
        StringBuilder text = new StringBuilder();
        text.append(m.getReturnType().getSimpleName()).append(' ').append(m.getName()).append('(');
        String comma = "";
        for (Class<?> p : m.getParameterTypes()) {
            text.append(comma).append(p.getSimpleName());
            comma = ",";
        }
        text.append(')');
        for (Class<?> e : m.getExceptionTypes()) {
            text.append(' ').append(e.getSimpleName());
        }
        return text.toString();
    }

    /** The methods as 'The public face' of the document writes them, without the names of what they take. */
    private static Set<String> documented() {
        Set<String> found = new TreeSet<>();
        try {
            for (String line : Files.readAllLines(Path.of("..", "shared", "DOC.md"))) {
                String text = line.trim();
                if (text.startsWith("public ") && text.endsWith(";") && !text.contains("public TillOptimists(")) {
                    found.add(text.substring(7, text.length() - 1).replaceAll("\\b(int|long) \\w+([,)])", "$1$2")
                        .replace(", ", ",").replace(" throws ", " ").replace("Exception,", "Exception "));
                }
            }
        } catch (IOException e) {
            must(false, "the document can be read: " + e);
        }
        return found;
    }

    private static void checkMembers(Class<?> face) {
        Set<String> seen = new TreeSet<>();
        Set<String> names = new HashSet<>();
        for (Method m : face.getDeclaredMethods()) {
            if (Modifier.isPublic(m.getModifiers())) {
                seen.add(written(m));
                names.add(m.getName());
                must(!Modifier.isStatic(m.getModifiers()), m.getName() + " is no static method");
            }
        }
        must(seen.equals(new TreeSet<>(Arrays.asList(FACE))), "the public methods are those of the document: " + seen);
        for (Method m : face.getDeclaredMethods()) {
            int mods = m.getModifiers();
            must(Modifier.isPublic(mods) || Modifier.isPrivate(mods), m.getName() + " is public or private");
            must(Modifier.isPublic(mods) || !names.contains(m.getName()), m.getName() + " is no name of a public method");
        }
        for (Field f : face.getDeclaredFields()) {
            must(Modifier.isPrivate(f.getModifiers()), f.getName() + " is private");
            must(!Modifier.isStatic(f.getModifiers()) || Modifier.isFinal(f.getModifiers()), f.getName() + " is final");
        }
        Constructor<?>[] makers = face.getDeclaredConstructors();
        must(makers.length == 1 && Modifier.isPublic(makers[0].getModifiers())
            && makers[0].getParameterCount() == 0, "one public constructor without parameters");
        for (Class<?> inside : face.getDeclaredClasses()) {
            must(Modifier.isStatic(inside.getModifiers()), inside.getSimpleName() + " is static");
            must(!Modifier.isPublic(inside.getModifiers()), inside.getSimpleName() + " is not public");
            for (Method m : inside.getDeclaredMethods()) {
                must(!names.contains(m.getName()), m.getName() + " inside is no name of a public method");
            }
        }
    }

    public static void main(String[] args) {
        Class<?> face = TillOptimists.class;
        int mods = face.getModifiers();
        must(Modifier.isPublic(mods) && Modifier.isFinal(mods), "the class is public and final");
        must(face.getSuperclass() == Object.class && face.getInterfaces().length == 0, "it extends nothing");
        must(documented().equals(new TreeSet<>(Arrays.asList(FACE))), "the document's face is this: " + documented());
        checkMembers(face);
        System.out.println(wrong == 0 ? "the face is that of the document" : wrong + " wrong");
        if (wrong != 0) {
            System.exit(1);
        }
    }
}
