import java.io.IOException;
import java.lang.reflect.Constructor;
import java.lang.reflect.Field;
import java.lang.reflect.Method;
import java.lang.reflect.Modifier;
import java.nio.file.Files;
import java.nio.file.Path;
import java.util.Arrays;
import java.util.List;
import java.util.Set;
import java.util.TreeSet;
import java.util.regex.Matcher;
import java.util.regex.Pattern;

/** The public face, its constants, and those rules of LANGUAGE.md that can be seen in the text. */
public final class FaceTest {
    private static final Due due = new Due("FaceTest");
    private static final Set<String> FACE = faceOfDocument();

    public static void main(String[] args) throws IOException {
        methods();
        constants();
        constructor();
        namesInside();
        text(Files.readString(Path.of("src/main/java/BitAlmanac.java")));
        due.end();
    }

    /** Each method that the document shows, as "int name(types)". */
    private static Set<String> faceOfDocument() {
        Set<String> face = new TreeSet<>();
        Matcher method = Pattern.compile("public (int|long) (\\w+)\\(([^)]*)\\);").matcher(Due.documentParts()[0]);
        while (method.find()) {
            String types = method.group(3).replaceAll("(\\w+) \\w+", "$1").replace(", ", ",");
            face.add(method.group(1) + " " + method.group(2) + "(" + types + ")");
        }
        return face;
    }

    private static void methods() {
        Set<String> found = new TreeSet<>();
        for (Method m : BitAlmanac.class.getDeclaredMethods()) {
            if (!Modifier.isPrivate(m.getModifiers())) {
                StringBuilder types = new StringBuilder();
                for (Class<?> type : m.getParameterTypes()) {
                    types.append(types.length() == 0 ? "" : ",").append(type);
                }
                found.add(m.getReturnType() + " " + m.getName() + "(" + types + ")");
                due.is(m.getName() + " is public alone", m.getModifiers(), Modifier.PUBLIC);
            }
        }
        due.is("methods of the document", FACE.size(), 39);
        due.isText("the methods", found.toString(), FACE.toString());
    }

    private static void constants() {
        due.is("NONE", BitAlmanac.NONE, -1);
        due.is("BEYOND", BitAlmanac.BEYOND, -2);
        due.is("NOTHING", BitAlmanac.NOTHING, -3);
        due.is("OTHER", BitAlmanac.OTHER, -4);
        due.is("BAD", BitAlmanac.BAD, -5);
        due.is("MISSING", BitAlmanac.MISSING, -6);
        due.is("FULL", BitAlmanac.FULL, -7);
        int visible = 0;
        for (Field f : BitAlmanac.class.getDeclaredFields()) {
            visible += Modifier.isPrivate(f.getModifiers()) ? 0 : 1;
            if (Modifier.isStatic(f.getModifiers())) {
                due.is(f.getName() + " is final", Modifier.isFinal(f.getModifiers()) ? 1 : 0, 1);
            }
        }
        due.is("fields that are not private", visible, 7);
    }

    private static void constructor() {
        Constructor<?>[] all = BitAlmanac.class.getDeclaredConstructors();
        due.is("constructors", all.length, 1);
        due.is("its parameters", all[0].getParameterCount(), 0);
        due.is("it is public", all[0].getModifiers(), Modifier.PUBLIC);
        due.is("the class", BitAlmanac.class.getModifiers(), Modifier.PUBLIC | Modifier.FINAL);
    }

    private static void namesInside() {
        Set<String> face = new TreeSet<>();
        for (String call : FACE) {
            face.add(call.substring(call.indexOf(' ') + 1, call.indexOf('(')));
        }
        Class<?>[] inside = BitAlmanac.class.getDeclaredClasses();
        due.is("at most twelve classes", inside.length <= 11 ? 1 : 0, 1);
        for (Class<?> c : inside) {
            due.is(c + " is static", Modifier.isStatic(c.getModifiers()) ? 1 : 0, 1);
            for (Method m : c.getDeclaredMethods()) {
                due.is(c + "." + m.getName() + " bears a name of the face", face.contains(m.getName()) ? 1 : 0, 0);
            }
        }
        for (Method m : BitAlmanac.class.getDeclaredMethods()) {
            boolean twice = Modifier.isPrivate(m.getModifiers()) && face.contains(m.getName());
            due.is(m.getName() + " bears a name of the face", twice ? 1 : 0, 0);
        }
    }

    private static void text(String source) {
        String code = source.replaceAll("(?s)/\\*.*?\\*/", " ").replaceAll("//[^\n]*", " ");
        String[] barred = {"throw", "throws", "try", "catch", "synchronized", "assert", "import", "package",
            "Exception", "Object", "System", "hashCode", "toString", "equals", "volatile", "transient"};
        for (String word : barred) {
            due.is("the word " + word, Pattern.compile("\\b" + word + "\\b").matcher(code).find() ? 1 : 0, 0);
        }
        due.is("lambdas and method references", code.contains("->") || code.contains("::") ? 1 : 0, 0);
        Matcher used = Pattern.compile("\\b(Math|Long|Integer|Arrays|String)\\.(\\w+)").matcher(code);
        List<String> listed = Arrays.asList("Math.min", "Math.max", "Long.bitCount", "Integer.compare");
        while (used.find()) {
            due.is("the library's " + used.group() + " is listed", listed.contains(used.group()) ? 1 : 0, 1);
        }
        loops(code);
        due.is("characters above 127", source.chars().anyMatch(c -> c > 127) ? 1 : 0, 0);
    }

    /** A loop's end can be seen from its own lines: its condition first compares a counter with a bound. */
    private static void loops(String code) {
        Matcher loop = Pattern.compile("\\b(while|for|do)\\b([^{]*)\\{").matcher(code);
        Pattern counted = Pattern.compile(
            " \\((int \\w+ = [^;]*; )?\\w+( \\+ 1)? (<|>|>=) [\\w.\\[\\] *+]+( && .*|; .*|\\) )", Pattern.DOTALL);
        while (loop.find()) {
            due.isTrue("a bound ends the loop" + loop.group(2), counted.matcher(loop.group(2)).matches());
        }
    }
}
