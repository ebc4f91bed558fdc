import java.lang.reflect.Method;
import java.lang.reflect.Modifier;
import java.nio.file.Files;
import java.nio.file.Path;
import java.util.List;
import java.util.regex.Matcher;
import java.util.regex.Pattern;
import javax.tools.JavaCompiler;
import javax.tools.ToolProvider;

/** README.md: its lines compile, every call is shown, and each answers the number that stands behind it. */
public final class ReadmeTest {
    private static final Pattern BLOCK = Pattern.compile("(?s)```java\n(.*?)```");
    private static final Pattern SHOWN = Pattern.compile("^(\\s*)(x\\.(\\w+)\\(.*\\));\\s*// (-?\\d+)\\b.*$");

    public static void main(String[] args) throws Exception {
        Due due = new Due("ReadmeTest");
        StringBuilder body = new StringBuilder();
        StringBuilder shown = new StringBuilder(" ");
        for (String line : linesOfUse(Files.readString(Path.of("README.md")))) {
            Matcher m = SHOWN.matcher(line);
            due.is("a call without its answer: " + line, line.contains("x.") && !m.matches() ? 1 : 0, 0);
            if (m.matches()) {
                shown.append(m.group(3)).append(' ');
                body.append("due.is(\"").append(m.group(2).replace("\"", "")).append(" of README.md\", ")
                        .append(m.group(2)).append(", ").append(m.group(4)).append("L);\n");
            } else {
                body.append(line).append('\n');
            }
        }
        for (Method m : BerthAges.class.getDeclaredMethods()) {
            if (Modifier.isPublic(m.getModifiers())) {
                due.is(m.getName() + "() is shown", shown.indexOf(" " + m.getName() + " ") >= 0 ? 1 : 0, 1);
            }
        }
        run(due, body.toString());
        due.end();
    }

    private static List<String> linesOfUse(String page) {
        StringBuilder all = new StringBuilder();
        for (Matcher m = BLOCK.matcher(page); m.find();) {
            all.append(m.group(1));
        }
        return all.toString().lines().toList();
    }

    private static void run(Due due, String body) throws Exception {
        Path dir = Files.createTempDirectory("readme");
        Path file = dir.resolve("ReadmeLines.java");
        Files.writeString(file, "final class ReadmeLines { static void run(Due due) {\n" + body + "} }\n");
        JavaCompiler compiler = ToolProvider.getSystemJavaCompiler();
        // Beside the other classes, as it must be loaded with them to see Due.
        String own = Path.of(Due.class.getProtectionDomain().getCodeSource().getLocation().toURI()).toString();
        int failed = compiler.run(null, null, null, "-cp", own, "-d", own, file.toString());
        Files.delete(file);
        Files.delete(dir);
        due.is("README.md's lines compile", failed, 0);
        if (failed == 0) {
            Method lines = Class.forName("ReadmeLines").getDeclaredMethod("run", Due.class);
            lines.invoke(null, due);
        }
    }
}
