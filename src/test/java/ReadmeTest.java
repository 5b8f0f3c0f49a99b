import java.io.IOException;
import java.lang.reflect.Method;
import java.lang.reflect.Modifier;
import java.nio.file.Files;
import java.nio.file.Path;
import java.util.ArrayList;
import java.util.List;
import java.util.Set;
import java.util.TreeSet;
import java.util.regex.Matcher;
import java.util.regex.Pattern;
import java.util.stream.Collectors;
import java.util.stream.Stream;

/** README.md: its examples answer as they say, it names each act and each test, and the command that CI runs. */
public final class ReadmeTest {
    private static final Due due = new Due("ReadmeTest");
    private static final Pattern CALL = Pattern.compile("x\\.(\\w+)\\(([^)]*)\\); +// (-?\\d+|[A-Z]+)(: .*)?");

    public static void main(String[] args) throws IOException, ReflectiveOperationException {
        String text = Files.readString(Path.of("README.md"));
        List<String> examples = blocks(text, "java");
        due.is("examples", examples.size(), 2);
        for (String example : examples) {
            answers(example.split("\n"));
        }
        acts(text);
        tests(text);
        command(text);
        due.end();
    }

    private static List<String> blocks(String text, String language) {
        List<String> found = new ArrayList<>();
        Matcher block = Pattern.compile("(?s)```" + language + "\n(.*?)```").matcher(text);
        while (block.find()) {
            found.add(block.group(1));
        }
        return found;
    }

    private static void answers(String[] lines) throws ReflectiveOperationException {
        due.isText("an example's first line", lines[0], "BitAlmanac x = new BitAlmanac();");
        BitAlmanac x = new BitAlmanac();
        for (int i = 1; i < lines.length; i++) {
            Matcher call = CALL.matcher(lines[i]);
            due.isTrue("a line is a call with its answer: " + lines[i], call.matches());
            if (call.matches()) {
                due.is(lines[i], answer(x, call.group(1), call.group(2)), told(call.group(3)));
            }
        }
    }

    private static long answer(BitAlmanac x, String act, String numbers) throws ReflectiveOperationException {
        for (Method m : BitAlmanac.class.getDeclaredMethods()) {
            if (Modifier.isPublic(m.getModifiers()) && m.getName().equals(act)) {
                return ((Number) m.invoke(x, values(m.getParameterTypes(), numbers))).longValue();
            }
        }
        throw new IllegalArgumentException("there is no act " + act);
    }

    private static Object[] values(Class<?>[] types, String numbers) {
        String[] words = numbers.isEmpty() ? new String[0] : numbers.split(", ");
        Object[] values = new Object[words.length];
        for (int i = 0; i < words.length; i++) {
            values[i] = types[i] == boolean.class ? (Object) Boolean.valueOf(words[i])
                : types[i] == long.class ? (Object) Long.decode(words[i].replace("L", ""))
                : (Object) Integer.decode(words[i]);
        }
        return values;
    }

    private static long told(String answer) throws ReflectiveOperationException {
        boolean isConstant = Character.isLetter(answer.charAt(0));
        return isConstant ? BitAlmanac.class.getField(answer).getInt(null) : Long.parseLong(answer);
    }

    private static void acts(String text) {
        for (Method m : BitAlmanac.class.getDeclaredMethods()) {
            if (Modifier.isPublic(m.getModifiers())) {
                Matcher named = Pattern.compile("`" + m.getName() + "\\(([^)]*)\\)`").matcher(text);
                boolean isNamed = named.find();
                due.isTrue("the act " + m.getName() + " is named", isNamed);
                String taken = isNamed ? named.group(1) : "";
                int takes = taken.isEmpty() ? 0 : taken.split(", ").length;
                due.is("what " + m.getName() + " takes", takes, m.getParameterCount());
            }
        }
    }

    private static void tests(String text) throws IOException {
        Set<String> named = new TreeSet<>();
        Matcher name = Pattern.compile("\\b\\w+Test\\b").matcher(text);
        while (name.find()) {
            named.add(name.group());
        }
        try (Stream<Path> all = Files.list(Path.of("src/test/java"))) {
            Set<String> there = all.map(p -> p.getFileName().toString()).filter(f -> f.endsWith("Test.java"))
                .map(f -> f.replace(".java", "")).collect(Collectors.toCollection(TreeSet::new));
            due.isText("the tests that are named", named.toString(), there.toString());
        }
    }

    private static void command(String text) {
        due.isText("the commands", blocks(text, "sh").toString(), "[.ci/run\n]");
        due.isTrue(".ci/run can be run", Files.isExecutable(Path.of(".ci/run")));
    }
}
