import java.io.IOException;
import java.nio.file.Files;
import java.nio.file.Path;
import java.util.ArrayList;
import java.util.List;
import java.util.regex.Matcher;
import java.util.regex.Pattern;
import java.util.stream.Stream;

/** Every sentence of the document's terms and promises is one of which some ..EdgesTest says that it holds. */
public final class DocumentTest {
    private static final Check CHECK = new Check();
    private static final Path TESTS = Path.of("src/test/java");
    private static final Pattern QUOTE = Pattern.compile("\\bsays\\(((?:\\s*\\+?\\s*\"(?:[^\"\\\\]|\\\\.)*\")+)\\)");
    private static final Pattern PART = Pattern.compile("\"((?:[^\"\\\\]|\\\\.)*)\"");
    /** Headings, the marks of a text, and a promise's signature: no sentences. */
    private static final Pattern NO_SENTENCE = Pattern.compile("## Terms|## Promise \\d+: [A-Za-z ]*?(?= `)|```text|```"
            + "|==== 1 A USER'S MACHINE:|==== 2|==== 3 TEXTS\\.|==== 4|`(?:int|long) \\w+\\([^`]*\\)`:");

    public static void main(String[] args) throws IOException {
        String document = Check.read();
        int from = document.indexOf("## Terms");
        int to = document.indexOf("## Not promised");
        CHECK.due("the document has its terms and promises", from > 0 && to > from ? 1 : 0, 1);
        String text = document.substring(from, to);
        boolean[] isSaid = new boolean[text.length()];
        Matcher none = NO_SENTENCE.matcher(text);
        while (none.find()) {
            mark(isSaid, none.start(), none.end());
        }
        for (String words : quotes()) {
            for (int at = text.indexOf(words); at >= 0; at = text.indexOf(words, at + 1)) {
                mark(isSaid, at, at + words.length());
            }
        }
        tellTheRest(text, isSaid);
        CHECK.finish();
    }

    private static void mark(boolean[] isSaid, int from, int to) {
        for (int i = from; i < to; i++) {
            isSaid[i] = true;
        }
    }

    private static List<String> quotes() throws IOException {
        List<Path> files;
        try (Stream<Path> all = Files.list(TESTS)) {
            files = all.filter(file -> file.toString().endsWith("EdgesTest.java")).sorted().toList();
        }
        List<String> quotes = new ArrayList<>();
        for (Path file : files) {
            Matcher quote = QUOTE.matcher(Files.readString(file));
            while (quote.find()) {
                quotes.add(joined(quote.group(1)));
            }
        }
        return quotes;
    }

    private static String joined(String literals) {
        StringBuilder s = new StringBuilder();
        Matcher part = PART.matcher(literals);
        while (part.find()) {
            s.append(part.group(1));
        }
        return s.toString();
    }

    private static void tellTheRest(String text, boolean[] isSaid) {
        StringBuilder rest = new StringBuilder();
        for (int i = 0; i <= text.length(); i++) {
            if (i < text.length() && !isSaid[i]) {
                rest.append(text.charAt(i));
            } else if (rest.length() > 0) {
                CHECK.due("words without a test: " + rest, rest.toString().strip().length(), 0);
                rest.setLength(0);
            }
        }
    }
}
