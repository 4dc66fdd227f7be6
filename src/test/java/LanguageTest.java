import java.lang.reflect.Executable;
import java.lang.reflect.Field;
import java.lang.reflect.Method;
import java.lang.reflect.Modifier;
import java.nio.charset.StandardCharsets;
import java.nio.file.Files;
import java.nio.file.Path;
import java.util.ArrayList;
import java.util.Arrays;
import java.util.List;
import java.util.Set;
import java.util.TreeSet;
import java.util.regex.Matcher;
import java.util.regex.Pattern;

/** The rules of LANGUAGE.md that can be read from the source or by reflection; and the face. */
final class LanguageTest {
    private static final Check CHECK = new Check();
    private static final Set<String> FACE = new TreeSet<>(Arrays.asList(
        "int feed int int int int int", "int text int", "int fault int", "int named int", "int go int",
        "boolean flip int int int", "int thread int int", "int register int int", "int real int int", "int memory int",
        "int output int", "int queued int int int", "int next", "int alarm int int", "int plain int int",
        "int plainOf int int int", "int compared", "int shot int int int int", "int matters int", "int longBy int",
        "int longWith int int", "int need int", "int bestSpan int", "int slowest int",
        "boolean stick int int int boolean", "int loose", "int strays int", "int mean", "int left int int", "int takes",
        "int chance int int int", "int keep", "int back", "int count int"));

    public static void main(String[] args) throws Exception {
        face();
        shapes();
        source(Files.readString(Path.of("src/main/java/TwinThreads.java"), StandardCharsets.UTF_8));
        CHECK.end();
    }

    private static void face() throws Exception {
        Set<String> found = new TreeSet<>();
        Set<String> names = new TreeSet<>();
        for (Method m : TwinThreads.class.getDeclaredMethods()) {
            if (!Modifier.isPrivate(m.getModifiers()) && !m.isSynthetic()) {
                StringBuilder s = new StringBuilder(m.getReturnType().getName() + " " + m.getName());
                for (Class<?> p : m.getParameterTypes()) {
                    s.append(' ').append(p.getName());
                }
                CHECK.due("public and not static: " + s, m.getModifiers(), Modifier.PUBLIC);
                found.add(s.toString());
                names.add(m.getName());
            }
        }
        CHECK.due("the face " + found, found.equals(FACE), true);
        CHECK.due("the class", TwinThreads.class.getModifiers(), Modifier.PUBLIC | Modifier.FINAL);
        CHECK.due("constructors", TwinThreads.class.getDeclaredConstructors().length, 1);
        Class<?>[] thrown = TwinThreads.class.getMethod("thread", int.class, int.class).getExceptionTypes();
        CHECK.due("what thread() throws", thrown.length, 2);
        for (Field f : TwinThreads.class.getDeclaredFields()) {
            boolean isNone = f.getName().equals("NONE");
            CHECK.due("private but NONE: " + f.getName(), Modifier.isPrivate(f.getModifiers()), !isNone);
        }
        for (Class<?> c : allClasses()) {
            for (Method m : c.getDeclaredMethods()) {
                boolean both = Modifier.isPrivate(m.getModifiers()) && !m.isSynthetic() && names.contains(m.getName());
                CHECK.due("a private method with a name of the face: " + c.getName() + "." + m.getName(), both, false);
            }
        }
    }

    private static List<Class<?>> allClasses() {
        List<Class<?>> all = new ArrayList<>(Arrays.asList(TwinThreads.class.getDeclaredClasses()));
        all.add(TwinThreads.class);
        return all;
    }

    private static void shapes() {
        List<Class<?>> all = allClasses();
        CHECK.due("classes are few", all.size() <= 14, true);
        for (Class<?> c : all) {
            int hidden = c.getModifiers() & (Modifier.PUBLIC | Modifier.PROTECTED);
            CHECK.due("neither public nor protected: " + c.getName(), hidden == 0 || c == TwinThreads.class, true);
            int fields = 0;
            for (Field f : c.getDeclaredFields()) {
                if (Modifier.isStatic(f.getModifiers())) {
                    CHECK.due("final: " + f, Modifier.isFinal(f.getModifiers()), true);
                } else {
                    fields++;
                }
            }
            CHECK.due("some twenty fields: " + c.getName(), fields <= 24, true);
            List<Executable> codes = new ArrayList<>(Arrays.asList(c.getDeclaredMethods()));
            codes.addAll(Arrays.asList(c.getDeclaredConstructors()));
            for (Executable e : codes) {
                CHECK.due("seven parameters: " + e, e.getParameterCount() <= 7, true);
            }
        }
    }

    private static void source(String source) {
        String code = source.replaceAll("(?s)/\\*.*?\\*/", " ").replaceAll("//[^\n]*", " ");
        String bare = code.replaceAll("\"[^\"\n]*\"", "\"\"");
        for (int k = 0; k < source.length(); k++) {
            if (source.charAt(k) > 126) {
                CHECK.due("a sign above 126 at " + k, 1, 0);
            }
        }
        String[] forbidden = {"::", "\\)\\s*->", "\"\"\\s*\\+", "\\+\\s*\"\""};
        for (String f : forbidden) {
            CHECK.due("found " + f, Pattern.compile(f).matcher(bare).find(), false);
        }
        String[] words = {"finally", "synchronized", "assert", "volatile", "native", "strictfp", "Float", "Double", "hashCode", "getMessage", "NullPointerException", "ArrayIndexOutOfBoundsException",
            "ClassCastException", "NegativeArraySizeException", "ArrayStoreException", "Exception", "Throwable"};
        for (String w : words) {
            CHECK.due("the word " + w, Pattern.compile("\\b" + w + "\\b").matcher(bare).find(), false);
        }
        CHECK.due("a package line", Pattern.compile("(?m)^\\s*package\\b").matcher(bare).find(), false);
        Matcher imports = Pattern.compile("import ([^;]*);").matcher(bare);
        Set<String> library = new TreeSet<>(Arrays.asList("java.util.NoSuchElementException", "java.util.ArrayList",
            "java.util.List", "java.util.Arrays", "java.util.Iterator"));
        while (imports.find()) {
            CHECK.due("import " + imports.group(1), library.contains(imports.group(1)), true);
        }
        Matcher calls = Pattern.compile("\\b(System|Math|Integer|Long)\\.([a-z]\\w*)").matcher(bare);
        Set<String> allowed = new TreeSet<>(Arrays.asList("compare", "max", "min", "abs", "bitCount", "floorDiv", "floorMod",
            "numberOfLeadingZeros", "numberOfTrailingZeros", "highestOneBit", "lowestOneBit", "rotateLeft", "rotateRight",
            "reverse", "signum", "sum", "compareUnsigned", "divideUnsigned", "remainderUnsigned", "toUnsignedLong"));
        while (calls.find()) {
            boolean isFine = calls.group(1).equals("System") ? calls.group(2).equals("arraycopy") : allowed.contains(calls.group(2));
            CHECK.due("call of " + calls.group(), isFine, true);
        }
        Matcher throwing = Pattern.compile("throw [^;]*;").matcher(code);
        while (throwing.find()) {
            CHECK.due(throwing.group(), throwing.group().matches("throw new (IllegalState|IllegalArgument|IndexOutOfBounds"
                + "|Arithmetic|UnsupportedOperation|NoSuchElement|Runtime)Exception\\((\"[^\"]*\")?\\);"), true);
        }
        lengths(source);
    }

    private static void lengths(String source) {
        int start = 0;
        String[] lines = source.split("\n");
        for (int k = 0; k < lines.length; k++) {
            if (lines[k].matches(" {4}( {4})?[A-Za-z].*\\) (throws .*)?\\{")) {
                start = k;
            } else if (lines[k].matches(" {4}( {4})?\\}") && start > 0) {
                CHECK.due("lines of " + lines[start].trim(), k - start <= 70, true);
                start = 0;
            }
        }
    }
}
