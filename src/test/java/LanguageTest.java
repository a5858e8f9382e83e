import java.io.IOException;
import java.nio.file.Files;
import java.nio.file.Path;
import java.util.List;
import java.util.regex.Matcher;
import java.util.regex.Pattern;

/** The rules of LANGUAGE.md that can be read off the program's text. */
public final class LanguageTest {
    private static final Path PROGRAM = Path.of("src/main/java/FabLink.java");
    /** "Some sixty lines". */
    private static final int LONGEST_METHOD = 65;
    private static final Pattern CAUGHT = Pattern.compile(
            "\\b(package|finally|synchronized|assert|Thread|Random|System\\.(?!arraycopy))\\b|::");
    private static final Pattern LIBRARY = Pattern.compile(
            "import java\\.util\\.(ArrayList|List|Iterator|Arrays|NoSuchElementException);");
    private static final Pattern METHOD = Pattern.compile("^ {4,8}[A-Za-z].*\\(.*\\).*\\{$");

    public static void main(String[] args) throws IOException {
        List<String> lines = Files.readAllLines(PROGRAM);
        String indent = null;
        int began = 0;
        for (int i = 0; i < lines.size(); i++) {
            String line = lines.get(i);
            words(i + 1, line);
            if (METHOD.matcher(line).matches()) {
                indent = line.substring(0, line.length() - line.stripLeading().length());
                began = i;
                Check.yes("seven parameters at most: " + line.strip(), line.split(",").length <= 7);
            } else if (indent != null && line.equals(indent + "}")) {
                Check.yes("a short method: " + lines.get(began).strip(), i - began < LONGEST_METHOD);
                indent = null;
            }
        }
        Check.end();
    }

    private static void words(int number, String line) {
        String code = line.strip();
        if (code.startsWith("/*") || code.startsWith("*") || code.startsWith("//")) {
            return;
        }
        Matcher m = CAUGHT.matcher(code);
        Check.no("line " + number + ": " + code, m.find());
        boolean isArm = code.startsWith("case ") || code.startsWith("default ");
        Check.no("line " + number + ", a lambda: " + code, code.contains("->") && !isArm);
        Check.yes("line " + number + ", the library: " + code,
                !code.startsWith("import ") || LIBRARY.matcher(code).matches());
        boolean isField = code.contains("static ") && code.endsWith(";") && !code.contains("(");
        Check.no("line " + number + ", static and not final: " + code, isField && !code.contains("final "));
    }
}
