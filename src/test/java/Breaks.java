import java.io.ByteArrayOutputStream;
import java.io.IOException;
import java.io.InputStream;
import java.io.OutputStream;
import java.io.StringWriter;
import java.lang.reflect.Method;
import java.net.URI;
import java.nio.charset.StandardCharsets;
import java.nio.file.Files;
import java.nio.file.Path;
import java.util.ArrayList;
import java.util.HashMap;
import java.util.List;
import java.util.Map;
import java.util.regex.Matcher;
import java.util.regex.Pattern;
import javax.tools.FileObject;
import javax.tools.ForwardingJavaFileManager;
import javax.tools.JavaCompiler;
import javax.tools.JavaFileManager;
import javax.tools.JavaFileObject;
import javax.tools.SimpleJavaFileObject;
import javax.tools.ToolProvider;

/**
 * Breaks TwinThreads at each place that src/test/breaks.txt names and sees whether the test named there notices it.
 * It is no test of the class and not run by .ci/run, since it knows the class's own lines.
 */
final class Breaks {
    private static final String[] TESTS = {"EdgeTextTest", "EdgeStepTest", "EdgeTurnTest", "EdgeAskTest", "OrdinaryTest"};
    private static final Pattern BREAK = Pattern.compile("== (\\w+)\n(.*?)\n-- is broken so:\n(.*?)\n(?===|\\z)", Pattern.DOTALL);

    public static void main(String[] args) throws Exception {
        String source = Files.readString(Path.of("src/main/java/TwinThreads.java"), StandardCharsets.UTF_8);
        Matcher m = BREAK.matcher(Files.readString(Path.of("src/test/breaks.txt"), StandardCharsets.UTF_8));
        int tried = 0;
        int bad = 0;
        while (m.find()) {
            tried++;
            String found = found(source, m.group(1), m.group(2), m.group(3));
            if (!found.isEmpty()) {
                bad++;
                System.out.println(m.group(1) + ": " + found + "\n" + m.group(2) + "\n-- by\n" + m.group(3));
            }
        }
        System.out.println(tried + " breaks, " + bad + " of them unnoticed or not to be tried");
        if (bad != 0 || tried == 0) {
            System.exit(1);
        }
    }

    private static String found(String source, String test, String whole, String broken) throws Exception {
        int at = source.indexOf(whole);
        if (at < 0 || source.indexOf(whole, at + 1) >= 0) {
            return at < 0 ? "the class has no such lines" : "the class has such lines twice";
        }
        Map<String, byte[]> classes = compiled(source.substring(0, at) + broken + source.substring(at + whole.length()));
        if (classes.isEmpty()) {
            return "it doesn't compile";
        }
        ClassLoader loader = new Loader(classes);
        Class<?> edge = loader.loadClass("Edge");
        Method holds = edge.getDeclaredMethod("holds", Method.class);
        holds.setAccessible(true);
        for (String tests : TESTS) {
            for (Method one : loader.loadClass(tests).getDeclaredMethods()) {
                if (one.getName().equals(test)) {
                    return (Boolean) holds.invoke(null, one) ? "it went unnoticed" : "";
                }
            }
        }
        return "there is no such test";
    }

    private static Map<String, byte[]> compiled(String source) throws IOException {
        JavaCompiler compiler = ToolProvider.getSystemJavaCompiler();
        try (Memory memory = new Memory(compiler.getStandardFileManager(null, null, null))) {
            List<JavaFileObject> files = new ArrayList<>();
            files.add(new SimpleJavaFileObject(URI.create("string:///TwinThreads.java"), JavaFileObject.Kind.SOURCE) {
                @Override
                public CharSequence getCharContent(boolean ignored) {
                    return source;
                }
            });
            boolean fine = compiler.getTask(new StringWriter(), memory, d -> { }, List.of("-proc:none"), null, files).call();
            Map<String, byte[]> classes = new HashMap<>();
            memory.written.forEach((name, bytes) -> classes.put(name, bytes.toByteArray()));
            return fine ? classes : new HashMap<>();
        }
    }

    /** Keeps what the compiler writes. */
    private static final class Memory extends ForwardingJavaFileManager<JavaFileManager> {
        private final Map<String, ByteArrayOutputStream> written = new HashMap<>();

        Memory(JavaFileManager files) {
            super(files);
        }

        @Override
        public JavaFileObject getJavaFileForOutput(Location where, String name, JavaFileObject.Kind kind, FileObject sibling) {
            return new SimpleJavaFileObject(URI.create("memory:///" + name + ".class"), kind) {
                @Override
                public OutputStream openOutputStream() {
                    ByteArrayOutputStream bytes = new ByteArrayOutputStream();
                    written.put(name, bytes);
                    return bytes;
                }
            };
        }
    }

    /** The broken class, and the tests anew each time beside it. */
    private static final class Loader extends ClassLoader {
        private final Map<String, byte[]> classes;

        Loader(Map<String, byte[]> classes) {
            super(ClassLoader.getPlatformClassLoader());
            this.classes = classes;
        }

        @Override
        protected Class<?> findClass(String name) throws ClassNotFoundException {
            byte[] bytes = classes.get(name);
            try (InputStream in = ClassLoader.getSystemResourceAsStream(name + ".class")) {
                if (bytes == null && in != null) {
                    bytes = in.readAllBytes();
                }
            } catch (IOException e) {
                throw new ClassNotFoundException(name, e);
            }
            if (bytes == null) {
                throw new ClassNotFoundException(name);
            }
            return defineClass(name, bytes, 0, bytes.length);
        }
    }
}
