import java.io.IOException;
import java.io.UncheckedIOException;
import java.nio.file.Files;
import java.nio.file.Path;

/** Answers beside those that are due, and the sentence of the document that each is due to. */
final class Due {
    static final Path DOCUMENT = Path.of("../shared/DOC.md");

    private final String test;
    private String[] parts = null;
    private String sentence = "";
    private int asked = 0;
    private int askedOfSentence = 1;
    private int wrong = 0;

    Due(String test) {
        this.test = test;
    }

    void is(String call, long got, long want) {
        count();
        if (got != want) {
            wrong(call + " answered " + got + ", due is " + want);
        }
    }

    void isText(String what, String got, String want) {
        count();
        if (!got.equals(want)) {
            wrong(what + " is '" + got + "', due is '" + want + "'");
        }
    }

    void isTrue(String what, boolean holds) {
        count();
        if (!holds) {
            wrong("it does not hold that " + what);
        }
    }

    /** What is asked from here on is due to this sentence of a promise (0: of what stands ahead of the promises). */
    void sentence(int promise, String words) {
        endSentence();
        sentence = (promise == 0 ? "" : "promise " + promise + ": ") + "\"" + words + "\": ";
        askedOfSentence = 0;
        if (parts == null) {
            parts = documentParts();
        }
        if (promise >= parts.length || !parts[promise].contains(words)) {
            wrong("the document has no such words there");
        }
    }

    int wrongSoFar() {
        return wrong;
    }

    void end() {
        endSentence();
        System.out.println(test + ": " + asked + " answers, " + wrong + " of them not as due");
        if (wrong != 0 || asked == 0) {
            System.exit(1);
        }
    }

    private void endSentence() {
        if (askedOfSentence == 0) {
            wrong("nothing was asked");
        }
    }

    private void count() {
        asked++;
        askedOfSentence++;
    }

    private void wrong(String what) {
        wrong++;
        System.out.println(test + ": " + sentence + what);
    }

    /** What stands ahead of the promises, then each promise, without its heading; a blank between two words. */
    static String[] documentParts() {
        String text;
        try {
            text = Files.readString(DOCUMENT);
        } catch (IOException e) {
            throw new UncheckedIOException(e);
        }
        String[] found = text.split("## (Promise \\d+: [^\\n]*|Not promised)\\n");
        for (int i = 0; i < found.length; i++) {
            found[i] = found[i].replaceAll("\\s+", " ");
        }
        return java.util.Arrays.copyOf(found, found.length - 1);
    }
}
