import java.io.IOException;
import java.lang.reflect.Method;
import java.lang.reflect.Modifier;
import java.nio.file.DirectoryStream;
import java.nio.file.Files;
import java.nio.file.Path;
import java.util.List;

/** README.md tells each call of the face with what it throws, and its example does what it says. */
public final class ReadmeTest {
    private static final Path README = Path.of("README.md");
    private static final Path HERE = Path.of("src/test/java/ReadmeTest.java");

    public static void main(String[] args) throws IOException {
        List<String> readme = Files.readAllLines(README);
        everyCallHasARow(readme);
        howToMakeOneAndToTest(String.join("\n", readme));
        everyTestIsNamed(String.join("\n", readme));
        exampleIsTheOneBelow(readme);
        example();
        Check.end();
    }

    private static void everyCallHasARow(List<String> readme) {
        for (Method m : FabLink.class.getDeclaredMethods()) {
            if (Modifier.isPublic(m.getModifiers())) {
                String row = rowOf(readme, "| `" + m.getReturnType() + " " + m.getName() + "(");
                String[] cells = row.split("\\|");
                Check.same(m.getName() + ": call, takes, answers, throws", cells.length, 5);
                Check.yes(m.getName() + ": what it throws", cells[cells.length - 1].contains(thrown(m)));
            }
        }
    }

    private static String rowOf(List<String> readme, String beginning) {
        for (String line : readme) {
            if (line.startsWith(beginning)) {
                return line;
            }
        }
        return "";
    }

    private static String thrown(Method m) {
        Class<?>[] thrown = m.getExceptionTypes();
        return thrown.length == 0 ? "nothing" : "`" + thrown[0].getSimpleName() + "`";
    }

    private static void howToMakeOneAndToTest(String readme) {
        for (String words : new String[] {"`new FabLink()`", "512 calls", ".ci/run", "`javac` and `java`", "`../shared`"}) {
            Check.yes("README.md has " + words, readme.contains(words));
        }
    }

    private static void everyTestIsNamed(String readme) throws IOException {
        try (DirectoryStream<Path> tests = Files.newDirectoryStream(HERE.getParent(), "*Test.java")) {
            for (Path test : tests) {
                String name = test.getFileName().toString().replace(".java", "");
                Check.yes("README.md names " + name, readme.contains("`" + name + "`"));
            }
        }
    }

    private static void exampleIsTheOneBelow(List<String> readme) throws IOException {
        String here = Files.readString(HERE);
        int first = readme.indexOf("```java") + 1;
        int lines = readme.subList(first, readme.size()).indexOf("```");
        Check.yes("README.md has an example", first > 0 && lines > 0);
        for (String line : readme.subList(first, first + Math.max(0, lines))) {
            Check.yes("tried below: " + line, here.contains(line.strip()));
        }
    }

    /** The lines of README.md, with checks of what its comments say. */
    private static void example() {
        FabLink link = new FabLink();
        link.enable(true);                      // it says 5: it offers its message 1, 13
        Check.same("5", link.saidAt(link.said() - 1), 5);
        Check.same("offering", link.look(0), Host.OFFERING);
        int n = link.hear(4);                   // it says the block: n is 22
        Check.same("the block", n, 22);
        int length = link.saidAt(link.said() - n); // the block's first byte, its length: 19
        Check.same("its length", length, 19);
        link.hear(6);                           // the message was sent, and a talk is open for it
        Check.same("sent", link.look(5), 0);
        Check.same("a talk", link.look(6), 1);

        link.hear(5);                           // the host offers a block: it says 4, and is reading
        Check.same("4", link.saidAt(link.said() - 1), 4);
        Check.same("reading", link.look(0), Host.READING);
        int[] block = {10, 0, 1, 129, 13, 128, 1, 0, 0, 0, 7, 1, 23}; // length, 1, 13 without a body, sum
        for (int b : block) {
            n = link.hear(b);                   // by the last byte it says 6, and 5 to offer its reply
        }
        Check.same("6 and 5", n, 2);
        Check.same("6", link.saidAt(link.said() - 2), 6);
        Check.same("5", link.saidAt(link.said() - 1), 5);
        int speech = link.look(1);              // 2: it is speaking
        Check.same("speaking", speech, 2);
        n = link.hear(4);                       // it says the reply, 1, 14 with [B 0, []]: n is 20
        Check.same("the reply", n, 20);
        Check.same("1", link.saidAt(link.said() - n + 3), 1);
        Check.same("14", link.saidAt(link.said() - n + 4), 14);
        link.hear(6);                           // the reply was sent; nothing more is to be sent
        Check.same("nothing", link.look(5), 0);

        n = link.tick(45);                      // nobody replied to its 1, 13: n is 1, the 5 for its message 9, 9
        Check.same("5", n, 1);
        Check.same("the talk is closed", link.look(6), 0);
        Check.same("9, 9 is to be sent", link.look(5), 1);
    }
}
