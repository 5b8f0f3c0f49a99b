import java.io.IOException;
import java.nio.file.Files;
import java.nio.file.Path;
import java.util.List;
import java.util.regex.Matcher;
import java.util.regex.Pattern;
import java.util.stream.Collectors;
import java.util.stream.Stream;

/** Every word of every promise, and of what the document tells ahead of them, is quoted by a test of the edges. */
public final class SentencesTest {
    private static final Due due = new Due("SentencesTest");
    private static final Pattern QUOTE = Pattern.compile(
        "due\\.sentence\\((\\d+), (\"[^\"]*\"(?:\\s*\\+\\s*\"[^\"]*\")*)\\);");

    /** What only names a thing that other sentences tell of, or says where one stands. */
    private static final String[] NAMES_ALONE = {"A ROW has BITS, numbered from 0 on", "Each ROW has two TABLES",
        "KINDS of BOOKS", "2 FORKED: a TREE.", "3 PAIRED:", "4 FOLDED:", "REFUSALS, answers below 0,"};

    public static void main(String[] args) throws IOException {
        String[] parts = Due.documentParts();
        due.is("promises", parts.length - 1, 40);
        boolean[][] quoted = new boolean[parts.length][];
        for (int i = 0; i < parts.length; i++) {
            parts[i] = i == 0 ? aheadOfPromises(parts[0]) : parts[i].replaceFirst("`[^`]*`:", "");
            quoted[i] = new boolean[parts[i].length()];
        }
        for (Path test : tests()) {
            markQuotes(Files.readString(test), parts, quoted);
        }
        for (String words : NAMES_ALONE) {
            mark(parts[0], words, quoted[0]);
        }
        for (int i = 0; i < parts.length; i++) {
            due.isText("what no test quotes of part " + i, left(parts[i], quoted[i]), "");
        }
        due.end();
    }

    private static List<Path> tests() throws IOException {
        try (Stream<Path> all = Files.list(Path.of("src/test/java"))) {
            return all.filter(p -> p.getFileName().toString().startsWith("EdgesOf")).collect(Collectors.toList());
        }
    }

    /** The terms, the kinds and the refusals: the rest ahead of the promises is the face and headings. */
    private static String aheadOfPromises(String part) {
        String terms = part.substring(part.indexOf("## Terms") + "## Terms".length());
        return terms.replaceAll("Ahead of the calls .*", "").replaceAll("```(text)?", "").replaceAll("={8} \\d", "");
    }

    private static void markQuotes(String source, String[] parts, boolean[][] quoted) {
        Matcher quote = QUOTE.matcher(source);
        while (quote.find()) {
            int promise = Integer.parseInt(quote.group(1));
            String words = quote.group(2).replaceAll("\"\\s*\\+\\s*\"", "");
            mark(parts[promise], words.substring(1, words.length() - 1), quoted[promise]);
        }
    }

    private static void mark(String part, String words, boolean[] quoted) {
        for (int at = part.indexOf(words); at >= 0; at = part.indexOf(words, at + 1)) {
            java.util.Arrays.fill(quoted, at, at + words.length(), true);
        }
    }

    private static String left(String part, boolean[] quoted) {
        StringBuilder text = new StringBuilder();
        for (int i = 0; i < part.length(); i++) {
            text.append(quoted[i] ? ' ' : part.charAt(i));
        }
        return text.toString().replaceAll("[^A-Za-z0-9]+", " ").trim();
    }
}
