import java.io.IOException;
import java.lang.reflect.Member;
import java.lang.reflect.Method;
import java.lang.reflect.Modifier;
import java.nio.file.Files;
import java.nio.file.Path;
import java.util.ArrayList;
import java.util.Arrays;
import java.util.List;
import java.util.TreeSet;

/** The public face is the document's and no more, and the source keeps away from what is ruled out. */
public final class FaceTest {
    private static final List<String> FACE = List.of(
            "int feed(int, int, int, int, int)", "boolean end(int)", "int rules()", "int clock(int)",
            "int fault()", "int rule(int)", "int song(int, int, int, int, boolean)", "int vote(int, int)",
            "int ask(int)", "int lay(int)", "int told(int, int)", "int play(int, int)",
            "int left(int, int)", "int at(int)", "int rights(int, int, int)", "int items(int)",
            "int count(int)");

    private static final List<String> RULED_OUT = List.of("->", "::", "try {", "catch (", "finally",
            "synchronized", "assert ", "Exact(", "System.out", "new Object", "import java.io",
            "static {", "package ");

    private FaceTest() { }

    public static void main(String[] args) throws IOException {
        Class<?> c = SongHour.class;
        Check.due("public and final", c.getModifiers(), Modifier.PUBLIC | Modifier.FINAL);
        Check.due("one constructor", c.getDeclaredConstructors().length, 1);
        Check.due("it is public", Modifier.isPublic(c.getDeclaredConstructors()[0].getModifiers()), true);
        Check.due("it takes nothing", c.getDeclaredConstructors()[0].getParameterCount(), 0);
        TreeSet<String> open = new TreeSet<>();
        List<String> names = new ArrayList<>();
        for (Method m : c.getDeclaredMethods()) {
            names.add(m.getName());
            if (!Modifier.isPrivate(m.getModifiers())) {
                open.add(signature(m));
            }
        }
        Check.due("the methods " + open, open.equals(new TreeSet<>(FACE)), true);
        Check.due("no name twice in " + names, new TreeSet<>(names).size(), names.size());
        for (Member f : c.getDeclaredFields()) {
            boolean isNone = f.getName().equals("NONE");
            Check.due("field " + f.getName() + " is private", Modifier.isPrivate(f.getModifiers()), !isNone);
        }
        String source = Files.readString(Path.of("src/main/java/SongHour.java"));
        for (String part : RULED_OUT) {
            Check.due("the source has '" + part + "'", source.contains(part), false);
        }
        Check.finish("FaceTest");
    }

    private static String signature(Method m) {
        String parameters = Arrays.toString(m.getParameterTypes());
        return m.getReturnType() + " " + m.getName() + "(" + parameters.substring(1, parameters.length() - 1) + ")";
    }
}
