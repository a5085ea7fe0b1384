import java.io.ByteArrayOutputStream;
import java.io.IOException;
import java.io.PrintStream;
import java.net.URL;
import java.net.URLClassLoader;
import java.nio.charset.StandardCharsets;
import java.nio.file.Files;
import java.nio.file.Path;
import java.util.regex.Matcher;
import java.util.regex.Pattern;
import javax.tools.ToolProvider;

/** The example of README.md compiles and prints what README.md says. */
public final class ReadmeTest {
    public static void main(String[] args) throws Exception {
        Checks checks = new Checks();
        String readme = Files.readString(Path.of("README.md"), StandardCharsets.UTF_8);
        Path folder = Files.createTempDirectory("readme");
        try {
            String printed = printedBy(block(readme, "java"), Path.of(args[1]), folder);
            String due = block(readme, "text");
            checks.hold("the example prints\n" + printed + "which as\n" + due, !due.isEmpty() && printed.equals(due));
        } finally {
            remove(folder);
        }
        checks.end();
    }

    private static String block(String readme, String kind) {
        Matcher found = Pattern.compile("(?s)```" + kind + "\n(.*?)```").matcher(readme);
        return found.find() ? found.group(1) : "";
    }

    private static String printedBy(String source, Path program, Path folder) throws Exception {
        Path example = Files.writeString(folder.resolve("Example.java"), source);
        ByteArrayOutputStream faults = new ByteArrayOutputStream();
        int failed = ToolProvider.getSystemJavaCompiler()
            .run(null, faults, faults, "-d", folder.toString(), program.toString(), example.toString());
        if (failed != 0) {
            return faults.toString(StandardCharsets.UTF_8);
        }
        ByteArrayOutputStream printed = new ByteArrayOutputStream();
        PrintStream before = System.out;
        // Without a parent that knows the project's classes, the example can use the compiled program alone.
        try (URLClassLoader loader = new URLClassLoader(new URL[] {folder.toUri().toURL()}, ClassLoader.getPlatformClassLoader())) {
            System.setOut(new PrintStream(printed, true, StandardCharsets.UTF_8));
            loader.loadClass("Example").getMethod("main", String[].class).invoke(null, (Object) new String[0]);
        } finally {
            System.setOut(before);
        }
        return printed.toString(StandardCharsets.UTF_8).replace(System.lineSeparator(), "\n");
    }

    private static void remove(Path folder) throws IOException {
        try (var files = Files.list(folder)) {
            for (Path file : files.toList()) {
                Files.delete(file);
            }
        }
        Files.delete(folder);
    }
}
