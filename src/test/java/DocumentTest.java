import java.io.IOException;
import java.nio.file.DirectoryStream;
import java.nio.file.Files;
import java.nio.file.Path;
import java.util.Arrays;
import java.util.regex.Matcher;
import java.util.regex.Pattern;

/**
 * Every sentence of the document has a test: what the tests quote by Check.about, taken together, is
 * the whole document, but for the face, which is FaceTest's, and for what asks for nothing.
 */
public final class DocumentTest {
    private static final Path DOCUMENT = Path.of("../shared/DOC.md");
    private static final Path TESTS = Path.of("src/test/java");
    private static final Pattern QUOTE = Pattern.compile(
            "Check\\.about\\(\\s*((?:\"(?:[^\"\\\\]|\\\\.)*\"\\s*\\+?\\s*)+)\\)");
    private static final Pattern WRITTEN = Pattern.compile("\"((?:[^\"\\\\]|\\\\.)*)\"");
    /** What is left out of a quote; two points are the document's own. */
    private static final String LEFT_OUT = " ... ";

    private static final String[] ASKS_FOR_NOTHING = {
        "A machine that a host speaks to over a line of bytes: blocks with a handshake, repeats and a sum; "
                + "trees of items in the blocks; states of speaking, of control and of work; variables, "
                + "reports of them, and events that send reports.",
        "what later calls answer is free.",
        "How the state is held inside the object is free, as are the speed of each call, the text of toString and "
                + "the behaviour of equals and hashCode. Use of one object from several threads at once is not "
                + "promised to be safe. Nothing is promised beyond the answers and state changes described above, "
                + "and nothing about an object after its 512th call.",
    };

    private final String text;
    private final boolean[] quoted;

    private DocumentTest(String text) {
        this.text = text;
        this.quoted = new boolean[text.length()];
    }

    public static void main(String[] args) throws IOException {
        DocumentTest document = new DocumentTest(sentences(Files.readString(DOCUMENT)));
        for (String nothing : ASKS_FOR_NOTHING) {
            document.mark("DocumentTest", nothing);
        }
        try (DirectoryStream<Path> tests = Files.newDirectoryStream(TESTS, "*Test.java")) {
            for (Path test : tests) {
                document.markAll(test);
            }
        }
        document.tellTheRest();
        Check.end();
    }

    /** Without headings, the face, and the marks of code; one blank between words. */
    private static String sentences(String document) {
        return document
                .replaceAll("(?s)```java.*?```", " ")
                .replaceAll("(?m)^#.*$", " ")
                .replaceAll("(?m)^`[^`]*`:", " ")
                .replaceAll("```(text)?", " ")
                .replaceAll("\\s+", " ");
    }

    private void markAll(Path test) throws IOException {
        Matcher quotes = QUOTE.matcher(Files.readString(test));
        while (quotes.find()) {
            mark(test.getFileName().toString(), joined(quotes.group(1)));
        }
    }

    private static String joined(String literals) {
        StringBuilder whole = new StringBuilder();
        Matcher parts = WRITTEN.matcher(literals);
        while (parts.find()) {
            whole.append(parts.group(1).replace("\\\"", "\""));
        }
        return whole.toString();
    }

    private void mark(String where, String quote) {
        int from = 0;
        for (String part : quote.split(Pattern.quote(LEFT_OUT))) {
            int at = text.indexOf(part, from);
            Check.yes(where + " quotes the document: " + quote, at >= 0);
            if (at < 0) {
                return;
            }
            from = at + part.length();
            Arrays.fill(quoted, at, from, true);
        }
    }

    private void tellTheRest() {
        int from = 0;
        while (from < text.length()) {
            int to = from;
            while (to < text.length() && quoted[to] == quoted[from]) {
                to++;
            }
            String part = text.substring(from, to);
            boolean saysSomething = part.codePoints().anyMatch(Character::isLetterOrDigit);
            Check.no("no test quotes: " + part.strip(), !quoted[from] && saysSomething);
            from = to;
        }
    }
}
