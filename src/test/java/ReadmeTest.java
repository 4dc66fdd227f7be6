import java.io.ByteArrayOutputStream;
import java.io.IOException;
import java.io.PrintStream;
import java.net.URL;
import java.net.URLClassLoader;
import java.nio.charset.StandardCharsets;
import java.nio.file.Files;
import java.nio.file.Path;
import java.util.regex.Matcher;
import java.util.regex.Pattern;
import javax.tools.ToolProvider;

/** The example in README.md compiles and prints what stands there, and each call of the face is named. */
final class ReadmeTest {
    private static final Check CHECK = new Check();

    public static void main(String[] args) throws Exception {
        String readme = Files.readString(Path.of("README.md"), StandardCharsets.UTF_8);
        String printed = run(block(readme, "java"));
        if (!printed.equals(block(readme, "text"))) {
            System.out.println("the example prints:\n" + printed);
        }
        CHECK.due("what the example prints is what README.md says", printed.equals(block(readme, "text")), true);
        for (java.lang.reflect.Method m : TwinThreads.class.getMethods()) {
            if (m.getDeclaringClass() == TwinThreads.class) {
                CHECK.due("README.md names " + m.getName(), readme.contains("`" + m.getName() + "`"), true);
            }
        }
        CHECK.end();
    }

    /** The first block of that kind. */
    private static String block(String readme, String kind) {
        Matcher m = Pattern.compile("```" + kind + "\n(.*?)```", Pattern.DOTALL).matcher(readme);
        return m.find() ? m.group(1) : "";
    }

    private static String run(String example) throws Exception {
        Path folder = Files.createTempDirectory("example");
        Path source = folder.resolve("Example.java");
        Files.writeString(source, example, StandardCharsets.UTF_8);
        int failed = ToolProvider.getSystemJavaCompiler().run(null, null, null, "-Xlint:all", "-Werror", "-proc:none",
            "-cp", System.getProperty("java.class.path"), "-d", folder.toString(), source.toString());
        CHECK.due("the example compiles", failed, 0);
        PrintStream console = System.out;
        ByteArrayOutputStream printed = new ByteArrayOutputStream();
        try (URLClassLoader loader = new URLClassLoader(new URL[] {folder.toUri().toURL()})) {
            System.setOut(new PrintStream(printed, true, StandardCharsets.UTF_8));
            loader.loadClass("Example").getMethod("main", String[].class).invoke(null, (Object) new String[0]);
        } finally {
            System.setOut(console);
            remove(folder);
        }
        return printed.toString(StandardCharsets.UTF_8).replace(System.lineSeparator(), "\n");
    }

    private static void remove(Path folder) throws IOException {
        Files.deleteIfExists(folder.resolve("Example.class"));
        Files.deleteIfExists(folder.resolve("Example.java"));
        Files.deleteIfExists(folder);
    }
}
