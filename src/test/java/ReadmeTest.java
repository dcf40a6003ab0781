import java.io.IOException;
import java.lang.reflect.Method;
import java.lang.reflect.Modifier;
import java.net.URL;
import java.net.URLClassLoader;
import java.nio.file.Files;
import java.nio.file.Path;
import java.util.ArrayList;
import java.util.List;
import java.util.regex.Matcher;
import java.util.regex.Pattern;
import javax.tools.ToolProvider;

/** README.md: its calls answer what stands behind them, and it leaves out no call of the face. */
final class ReadmeTest {
    private static final Pattern ASKED = Pattern.compile("(desk\\..*\\)); +// (-?\\d+|true|false): .*");

    public static void main(String[] args) throws IOException, ReflectiveOperationException {
        String readme = Files.readString(Path.of("README.md"));
        for (Method m : CrashDesk.class.getDeclaredMethods()) {
            if (Modifier.isPublic(m.getModifiers())) {
                Due.same("README tells of " + m.getName(), true, readme.contains("| `" + m.getName() + "("));
            }
        }
        scene(readme);
        Due.end("ReadmeTest");
    }

    /** Runs the lines between the fences as they stand, and keeps what the told ones answer. */
    private static void scene(String readme) throws IOException, ReflectiveOperationException {
        List<String> calls = new ArrayList<>();
        List<String> due = new ArrayList<>();
        StringBuilder source = new StringBuilder("public class ReadmeScene { public static String run() {\n");
        source.append("StringBuilder all = new StringBuilder();\n");
        for (String line : readme.split("```java\n")[1].split("```")[0].split("\n")) {
            Matcher asked = ASKED.matcher(line);
            if (asked.matches()) {
                calls.add(asked.group(1));
                due.add(asked.group(2));
                source.append("all.append(").append(asked.group(1)).append(").append(' ');\n");
            } else {
                source.append(line).append('\n');
            }
        }
        source.append("return all.toString(); } }\n");
        String[] got = answers(source.toString()).split(" ");
        for (int i = 0; i < calls.size(); i++) {
            Due.same("README: " + calls.get(i) + ", call " + i, due.get(i), i < got.length ? got[i] : "nothing");
        }
        Due.same("README tells answers", true, calls.size() > 10);
    }

    private static String answers(String source) throws IOException, ReflectiveOperationException {
        Path folder = Files.createTempDirectory("readme");
        Path file = folder.resolve("ReadmeScene.java");
        Path made = folder.resolve("ReadmeScene.class");
        try {
            Files.writeString(file, source);
            int failed = ToolProvider.getSystemJavaCompiler().run(null, null, null,
                "-cp", System.getProperty("java.class.path"), "-d", folder.toString(), file.toString());
            Due.same("README: its lines can be compiled", 0, failed);
            if (failed != 0) {
                return "";
            }
            try (URLClassLoader loader = new URLClassLoader(new URL[] {folder.toUri().toURL()})) {
                return (String) loader.loadClass("ReadmeScene").getMethod("run").invoke(null);
            }
        } finally {
            Files.deleteIfExists(made);
            Files.deleteIfExists(file);
            Files.deleteIfExists(folder);
        }
    }
}
