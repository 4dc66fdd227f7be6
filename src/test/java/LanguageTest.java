import java.lang.reflect.Executable;
import java.lang.reflect.Field;
import java.lang.reflect.Method;
import java.lang.reflect.Modifier;
import java.nio.charset.StandardCharsets;
import java.nio.file.Files;
import java.nio.file.Path;
import java.util.ArrayList;
import java.util.Arrays;
import java.util.List;
import java.util.Set;
import java.util.TreeSet;
import java.util.regex.Matcher;
import java.util.regex.Pattern;

/** The rules of LANGUAGE.md that can be read from the source or by reflection; and the face. */
final class LanguageTest {
    private static final Check CHECK = new Check();
    private static final Set<String> FACE = new TreeSet<>(Arrays.asList(
        "int feed int int int int int", "int text int", "int fault int", "int named int", "int go int",
        "boolean flip int int int", "int thread int int", "int register int int", "int real int int", "int memory int",
        "int output int", "int queued int int int", "int next", "int alarm int int", "int plain int int",
        "int plainOf int int int", "int compared", "int shot int int int int", "int matters int", "int longBy int",
        "int longWith int int", "int need int", "int bestSpan int", "int slowest int",
        "boolean stick int int int boolean", "int loose", "int strays int", "int mean", "int left int int", "int takes",
        "int chance int int int", "int keep", "int back", "int count int"));

    public static void main(String[] args) throws Exception {
        face();
        shapes();
        source(Files.readString(Path.of("src/main/java/TwinThreads.java"), StandardCharsets.UTF_8));
        CHECK.end();
    }

    private static void face() throws Exception {
        Set<String> found = new TreeSet<>();
        Set<String> names = new TreeSet<>();
        for (Method m : TwinThreads.class.getDeclaredMethods()) {
            if (!Modifier.isPrivate(m.getModifiers()) && !m.isSynthetic()) {
                StringBuilder s = new StringBuilder(m.getReturnType().getName() + " " + m.getName());
                for (Class<?> p : m.getParameterTypes()) {
                    s.append(' ').append(p.getName());
                }
                CHECK.due("public and not static: " + s, m.getModifiers(), Modifier.PUBLIC);
                found.add(s.toString());
                names.add(m.getName());
            }
        }
        CHECK.due("the face " + found, found.equals(FACE), true);
        CHECK.due("the class", TwinThreads.class.getModifiers(), Modifier.PUBLIC | Modifier.FINAL);
        CHECK.due("constructors", TwinThreads.class.getDeclaredConstructors().length, 1);
        Class<?>[] thrown = TwinThreads.class.getMethod("thread", int.class, int.class).getExceptionTypes();
        CHECK.due("what thread() throws", thrown.length, 2);
        for (Field f : TwinThreads.class.getDeclaredFields()) {
            boolean isNone = f.getName().equals("NONE");
            CHECK.due("private but NONE: " + f.getName(), Modifier.isPrivate(f.getModifiers()), !isNone);
        }
        for (Class<?> c : TwinThreads.class.getDeclaredClasses()) {
            for (Method m : c.getDeclaredMethods()) {
                CHECK.due("a name of the face: " + c.getName() + "." + m.getName(), names.contains(m.getName()), false);
            }
        }
    }

    private static void shapes() {
        List<Class<?>> all = new ArrayList<>(Arrays.asList(TwinThreads.class.getDeclaredClasses()));
        CHECK.due("classes inside are few", all.size() <= 12, true);
        for (Class<?> c : all) {
            CHECK.due("static: " + c.getName(), Modifier.isStatic(c.getModifiers()), true);
            CHECK.due("neither public nor protected: " + c.getName(), c.getModifiers() & (Modifier.PUBLIC | Modifier.PROTECTED), 0);
        }
        all.add(TwinThreads.class);
        for (Class<?> c : all) {
            int fields = 0;
            for (Field f : c.getDeclaredFields()) {
                if (Modifier.isStatic(f.getModifiers())) {
                    CHECK.due("final: " + f, Modifier.isFinal(f.getModifiers()), true);
                    CHECK.due("a constant: " + f, f.getType().isPrimitive() || f.getType() == String.class, true);
                } else {
                    fields++;
                }
            }
            CHECK.due("twenty fields: " + c.getName(), fields <= 20, true);
            List<Executable> codes = new ArrayList<>(Arrays.asList(c.getDeclaredMethods()));
            codes.addAll(Arrays.asList(c.getDeclaredConstructors()));
            for (Executable e : codes) {
                CHECK.due("seven parameters: " + e, e.getParameterCount() <= 7, true);
            }
        }
    }

    private static void source(String source) {
        String code = source.replaceAll("(?s)/\\*.*?\\*/", " ").replaceAll("//[^\n]*", " ");
        String bare = code.replaceAll("\"[^\"\n]*\"", "\"\"");
        for (int k = 0; k < source.length(); k++) {
            if (source.charAt(k) > 126) {
                CHECK.due("a sign above 126 at " + k, 1, 0);
            }
        }
        String[] forbidden = {"->", "::", "@", "\"\"\\s*\\+", "\\+\\s*\"\""};
        for (String f : forbidden) {
            CHECK.due("found " + f, Pattern.compile(f).matcher(bare).find(), false);
        }
        String[] words = {"float", "double", "finally", "synchronized", "assert", "try", "catch", "volatile", "transient",
            "native", "strictfp", "var", "yield", "Object", "Float", "Double", "Thread", "Random", "equals", "hashCode",
            "toString", "instanceof", "protected", "extends", "implements", "package", "Arrays", "List", "ArrayList"};
        for (String w : words) {
            CHECK.due("the word " + w, Pattern.compile("\\b" + w + "\\b").matcher(bare).find(), false);
        }
        Matcher imports = Pattern.compile("import ([^;]*);").matcher(bare);
        while (imports.find()) {
            CHECK.due("import " + imports.group(1), imports.group(1).equals("java.util.NoSuchElementException"), true);
        }
        Matcher calls = Pattern.compile("\\b(System|Math|Integer|Long|String)\\.(\\w+)").matcher(bare);
        Set<String> allowed = new TreeSet<>(Arrays.asList("System.arraycopy", "Math.min", "Math.max", "Math.abs", "Math.floorMod",
            "Integer.bitCount", "Long.numberOfLeadingZeros"));
        while (calls.find()) {
            CHECK.due("call of " + calls.group(), allowed.contains(calls.group()), true);
        }
        Matcher throwing = Pattern.compile("throw [^;]*;").matcher(code);
        while (throwing.find()) {
            CHECK.due(throwing.group(), throwing.group().matches(
                "throw new (IndexOutOfBoundsException|NoSuchElementException)\\((\"[^\"]*\")?\\);"), true);
        }
        lengths(source);
    }

    private static void lengths(String source) {
        int start = 0;
        String[] lines = source.split("\n");
        for (int k = 0; k < lines.length; k++) {
            CHECK.due("length of line " + (k + 1), lines[k].length() <= 120, true);
            if (lines[k].matches(" {4}( {4})?[A-Za-z].*\\) (throws .*)?\\{")) {
                start = k;
            } else if (lines[k].matches(" {4}( {4})?\\}") && start > 0) {
                CHECK.due("lines of " + lines[start].trim(), k - start <= 60, true);
                start = 0;
            }
        }
    }
}
