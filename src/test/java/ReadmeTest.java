import java.lang.reflect.Method;
import java.lang.reflect.Modifier;
import java.net.URL;
import java.net.URLClassLoader;
import java.nio.file.Files;
import java.nio.file.Path;
import java.util.ArrayList;
import java.util.List;
import java.util.regex.Matcher;
import java.util.regex.Pattern;
import javax.tools.JavaCompiler;
import javax.tools.ToolProvider;

/** The example of README.md, compiled as it stands there, with each answer held to what is told behind the call. */
public final class ReadmeTest {
    private static final Checks CHECKS = new Checks();
    private static final Pattern TOLD = Pattern.compile("(x\\.(\\w+)\\(.*\\)); +// (-?\\d+).*");
    private static final Path PLACE = Path.of("build", "readme");

    private static List<String> example() throws Exception {
        List<String> lines = new ArrayList<>();
        boolean inside = false;
        for (String l : Files.readAllLines(Path.of("README.md"))) {
            if (l.startsWith("```")) inside = l.equals("```java");
            else if (inside) lines.add(l);
        }
        return lines;
    }

    /** Each call with an answer becomes one row: what was told, what is answered. */
    private static String source(List<String> lines) {
        StringBuilder s = new StringBuilder("public final class Example {\npublic static void run(java.util.List<Long> got) {\n");
        for (String l : lines) {
            Matcher m = TOLD.matcher(l);
            s.append(m.matches() ? "got.add((long) " + m.group(1) + ");" : l).append('\n');
        }
        return s.append("}\n}\n").toString();
    }

    private static List<Long> answers(String source) throws Exception {
        Files.createDirectories(PLACE);
        Path file = PLACE.resolve("Example.java");
        Files.writeString(file, source);
        JavaCompiler javac = ToolProvider.getSystemJavaCompiler();
        int failed = javac.run(null, null, null, "--release", "17", "-cp", System.getProperty("java.class.path"), "-d", PLACE.toString(), file.toString());
        CHECKS.due("the example compiles", failed, 0);
        List<Long> got = new ArrayList<>();
        if (failed == 0) {
            try (URLClassLoader loader = new URLClassLoader(new URL[] {PLACE.toUri().toURL()})) {
                loader.loadClass("Example").getMethod("run", List.class).invoke(null, got);
            }
        }
        return got;
    }

    public static void main(String[] args) throws Exception {
        List<String> lines = example();
        List<Long> got = answers(source(lines));
        List<String> names = new ArrayList<>();
        int at = 0;
        for (String l : lines) {
            Matcher m = TOLD.matcher(l);
            if (m.matches() && at < got.size()) {
                CHECKS.due("README.md: " + m.group(1), got.get(at), Long.parseLong(m.group(3)));
                names.add(m.group(2));
                at++;
            }
        }
        for (Method m : LeapKings.class.getDeclaredMethods()) {
            boolean open = Modifier.isPublic(m.getModifiers());
            CHECKS.due("README.md has a call of " + m.getName(), !open || names.contains(m.getName()) ? 1 : 0, 1);
        }
        CHECKS.finish();
    }
}
