import java.io.IOException;
import java.nio.file.Files;
import java.nio.file.Path;

/** Counts and prints the answers that are not as due, and ends the test accordingly. */
final class Check {
    private static final Path DOCUMENT = Path.of("../shared/DOC.md");

    private String document;
    private String sentence = "";
    private int wrong;
    private int asked;

    /** The answers from here on are due by these words of the document. */
    void says(String words) {
        sentence = words;
        due("a look for the words", document().contains(words) ? 1 : 0, 1);
    }

    private String document() {
        if (document == null) {
            document = read();
        }
        return document;
    }

    /** The document with a single blank wherever it has some, or a new line. */
    static String read() {
        try {
            return Files.readString(DOCUMENT).replaceAll("\\s+", " ");
        } catch (IOException e) {
            throw new IllegalStateException("the document can't be read", e);
        }
    }

    void due(String call, long got, long want) {
        asked++;
        if (got != want) {
            wrong++;
            System.out.println(call + " answered " + got + ", due is " + want
                    + (sentence.isEmpty() ? "" : " by '" + sentence + "'"));
        }
    }

    void due(String call, String got, String want) {
        due(call + ": " + got + " for " + want, got.equals(want) ? 1 : 0, 1);
    }

    boolean hasWrong() {
        return wrong > 0;
    }

    void finish() {
        System.out.println(asked + " answers, " + wrong + " not as due");
        if (wrong > 0) {
            System.exit(1);
        }
    }
}
