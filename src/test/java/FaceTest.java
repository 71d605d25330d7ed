import java.io.IOException;
import java.lang.reflect.Constructor;
import java.lang.reflect.Field;
import java.lang.reflect.Method;
import java.lang.reflect.Modifier;
import java.nio.file.Files;
import java.nio.file.Path;
import java.util.Set;
import java.util.TreeSet;

/** The public face, and the rules of LANGUAGE.md that a glance at the class can tell. */
public final class FaceTest {
    private static final Check CHECK = new Check("FaceTest");

    private static final Set<String> FACE = Set.of(
        "boolean write(int, long) throws IllegalStateException IndexOutOfBoundsException",
        "long read(int) throws IllegalStateException IndexOutOfBoundsException",
        "int add() throws IllegalStateException",
        "int grow() throws IllegalStateException",
        "int step() throws IllegalStateException",
        "boolean fail(int) throws",
        "boolean replace() throws",
        "int rebuild() throws IllegalStateException",
        "void cut(int) throws",
        "int open() throws",
        "int place(int, int) throws",
        "int disk(int, int) throws",
        "int count(int) throws",
        "int astray() throws",
        "long sum() throws IllegalStateException");

    public static void main(String[] args) throws IOException {
        Class<?> c = GrowingArray.class;
        CHECK.due("NONE", GrowingArray.NONE, -1);
        CHECK.isTrue("public final", Modifier.isPublic(c.getModifiers()) && Modifier.isFinal(c.getModifiers()));
        membersAre(c);
        sourceKeepsToTheLanguage();
        CHECK.end();
    }

    private static void membersAre(Class<?> c) {
        Set<String> found = new TreeSet<>();
        Set<String> names = new TreeSet<>();
        for (Method m : c.getDeclaredMethods()) {
            if (Modifier.isPublic(m.getModifiers())) {
                found.add(written(m));
                names.add(m.getName());
            }
        }
        CHECK.isTrue("the public methods are " + found, found.equals(new TreeSet<>(FACE)));
        for (Method m : c.getDeclaredMethods()) {
            boolean hidden = Modifier.isPrivate(m.getModifiers());
            CHECK.isTrue(m.getName() + " is public or private", hidden || Modifier.isPublic(m.getModifiers()));
            CHECK.isTrue(m.getName() + " has a name of its own", !hidden || !names.contains(m.getName()));
        }
        for (Field f : c.getDeclaredFields()) {
            CHECK.isTrue(f.getName() + " is private", f.getName().equals("NONE") || Modifier.isPrivate(f.getModifiers()));
        }
        Constructor<?>[] constructors = c.getDeclaredConstructors();
        CHECK.due("constructors", constructors.length, 1);
        CHECK.isTrue("a public one", Modifier.isPublic(constructors[0].getModifiers()));
        for (Class<?> inside : c.getDeclaredClasses()) {
            CHECK.isTrue(inside + " is static", Modifier.isStatic(inside.getModifiers()));
            CHECK.isTrue(inside + " is no member of the face", !Modifier.isPublic(inside.getModifiers()));
        }
    }

    private static String written(Method m) {
        StringBuilder text = new StringBuilder(m.getReturnType().getName()).append(' ').append(m.getName()).append('(');
        String between = "";
        for (Class<?> p : m.getParameterTypes()) {
            text.append(between).append(p.getName());
            between = ", ";
        }
        text.append(") throws");
        for (Class<?> e : m.getExceptionTypes()) {
            text.append(' ').append(e.getSimpleName());
        }
        return text.toString();
    }

    private static void sourceKeepsToTheLanguage() throws IOException {
        String source = Files.readString(Path.of("src/main/java/GrowingArray.java"));
        String[] outside = {"import ", "package ", "->", "::", "try ", "catch", "finally", "synchronized", "assert ",
            "instanceof", "Exact", "System.", "Thread", "static {"};
        for (String word : outside) {
            CHECK.isTrue("the source has no '" + word + "'", !source.contains(word));
        }
    }
}
