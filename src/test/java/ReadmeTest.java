import java.io.File;
import java.io.IOException;
import java.lang.reflect.Method;
import java.lang.reflect.Modifier;
import java.net.URL;
import java.net.URLClassLoader;
import java.nio.file.Files;
import java.nio.file.Path;
import java.util.ArrayList;
import java.util.List;
import java.util.concurrent.Callable;
import java.util.regex.Matcher;
import java.util.regex.Pattern;
import javax.tools.JavaCompiler;
import javax.tools.ToolProvider;

/**
 * The README's examples are so when they are tried: its Java, in its order, is made one program, in
 * which each call with an answer behind "//" must answer just that.
 */
public final class ReadmeTest {
    private static final Path README = Path.of("README.md");
    private static final Pattern BLOCK = Pattern.compile("```java\n(.*?)```", Pattern.DOTALL);
    private static final Pattern ANSWERED =
            Pattern.compile("(station\\.(\\w+)\\(.*\\));\\s*// (throws \\w+|true|false|-?\\d+)(:.*)?");
    private static final Pattern RULE =
            Pattern.compile("\\| (\\d) +\\| `(\\w+)` +\\| (\\d+) to (\\d+) \\w+ +\\| (\\d+) +\\|");
    private static final String EXAMPLE = "ReadmeExample";

    private ReadmeTest() { }

    public static void main(String[] args) throws Exception {
        String readme = Files.readString(README);
        List<String> tried = new ArrayList<>();
        Path directory = Files.createTempDirectory("readme");
        try {
            run(directory, program(readme, tried));
        } finally {
            removeAll(directory);
        }
        dueTableOfRules(readme);
        for (Method m : SongHour.class.getDeclaredMethods()) {
            if (Modifier.isPublic(m.getModifiers())) {
                Check.due("an example has " + m.getName(), tried.contains(m.getName()), true);
                Check.due("the table has " + m.getName(), readme.contains("\n| `" + m.getName() + "("), true);
            }
        }
        Check.finish("ReadmeTest");
    }

    /** Called by the program that is made of the examples. */
    public static void due(String what, Callable<Object> call, String want) {
        String got;
        try {
            got = String.valueOf(call.call());
        } catch (Exception e) {
            got = "throws " + e.getClass().getSimpleName();
        }
        Check.due(what + " (" + got + " for " + want + ")", got.equals(want), true);
    }

    private static String program(String readme, List<String> tried) {
        StringBuilder members = new StringBuilder();
        StringBuilder statements = new StringBuilder();
        Matcher block = BLOCK.matcher(readme);
        while (block.find()) {
            if (block.group(1).startsWith("static ")) {
                members.append(block.group(1));
            } else {
                for (String line : block.group(1).split("\n")) {
                    statements.append(statement(line, tried)).append('\n');
                }
            }
        }
        return "public final class " + EXAMPLE + " {\n" + members
                + "public static void main(String[] args) {\n" + statements + "}\n}\n";
    }

    private static String statement(String line, List<String> tried) {
        Matcher m = ANSWERED.matcher(line);
        if (m.matches()) {
            tried.add(m.group(2));
            return "ReadmeTest.due(\"" + m.group(1) + "\", () -> " + m.group(1) + ", \"" + m.group(3) + "\");";
        }
        // Else an answer that is not written as the others are would never be looked at.
        Check.due("no answer goes unread in: " + line, line.contains("//"), false);
        return line;
    }

    private static void run(Path directory, String source) throws Exception {
        Path file = directory.resolve(EXAMPLE + ".java");
        Files.writeString(file, source);
        JavaCompiler compiler = ToolProvider.getSystemJavaCompiler();
        int code = compiler.run(null, null, null, "-cp", System.getProperty("java.class.path"),
                "-d", directory.toString(), file.toString());
        Check.due("the code that javac ends with for the README's examples", code, 0);
        if (code == 0) {
            try (URLClassLoader loader = new URLClassLoader(new URL[] {directory.toUri().toURL()})) {
                loader.loadClass(EXAMPLE).getMethod("main", String[].class).invoke(null, (Object) new String[0]);
            }
        }
    }

    private static void dueTableOfRules(String readme) {
        Matcher row = RULE.matcher(readme);
        int rows = 0;
        while (row.find()) {
            int k = Integer.parseInt(row.group(1));
            String word = row.group(2);
            int least = Integer.parseInt(row.group(3));
            int most = Integer.parseInt(row.group(4));
            Check.due(word + " comes in its order", k, rows);
            Check.due(word + " without a text", new SongHour().rule(k), Integer.parseInt(row.group(5)));
            dueRule(k, word, least, true);
            dueRule(k, word, most, true);
            dueRule(k, word, least - 1, false);
            dueRule(k, word, most + 1, false);
            rows++;
        }
        Check.due("rules in the table", rows, 5);
    }

    private static void dueRule(int k, String word, int number, boolean isFine) {
        SongHour x = new SongHour();
        String text = word + " " + number + ";";
        Check.due(text, Check.rules(x, text) == 1, isFine);
        Check.due(text + " is rule " + k, x.rule(k) == number, isFine);
    }

    private static void removeAll(Path directory) throws IOException {
        File[] files = directory.toFile().listFiles();
        for (int i = 0; files != null && i < files.length; i++) {
            Files.delete(files[i].toPath());
        }
        Files.delete(directory);
    }
}
