import java.io.IOException;
import java.lang.reflect.Constructor;
import java.lang.reflect.Field;
import java.lang.reflect.Method;
import java.lang.reflect.Modifier;
import java.nio.file.Files;
import java.nio.file.Path;
import java.util.Arrays;
import java.util.Set;
import java.util.TreeSet;
import java.util.regex.Matcher;
import java.util.regex.Pattern;

/** The public face: every constructor and method of the document, and no other. */
public final class FaceTest {
    private static final String[] FACE = {
        "int hear(int) IllegalArgumentException",
        "int tick(int) IllegalArgumentException",
        "void enable(boolean) IllegalStateException",
        "void control(int) IllegalArgumentException",
        "boolean ring()",
        "int said()",
        "int saidAt(int) IndexOutOfBoundsException",
        "int look(int) IllegalArgumentException",
        "int report(int) IndexOutOfBoundsException",
        "int event(int) IndexOutOfBoundsException",
        "int format(int) IndexOutOfBoundsException",
        "int octet(int, int) IndexOutOfBoundsException",
    };

    private static final Path DOCUMENT = Path.of("../shared/DOC.md");
    /** In the document's face, and once more at the head of its promise. */
    private static final Pattern IN_FACE = Pattern.compile(
            "^    public (\\w+) (\\w+)\\(([^)]*)\\)(?: throws (\\w+))?;$", Pattern.MULTILINE);
    private static final Pattern IN_PROMISE = Pattern.compile(
            "^`(\\w+) (\\w+)\\(([^)]*)\\)(?: throws (\\w+))?`:", Pattern.MULTILINE);

    public static void main(String[] args) throws IOException {
        String document = Files.readString(DOCUMENT);
        Check.yes("the document's face", written(document, IN_FACE).equals(face()));
        Check.yes("the document's promises", written(document, IN_PROMISE).equals(face()));
        Check.same("public and final", FabLink.class.getModifiers(), Modifier.PUBLIC | Modifier.FINAL);
        methods();
        constructors();
        fields();
        classesInside();
        Check.end();
    }

    private static Set<String> face() {
        return new TreeSet<>(Arrays.asList(FACE));
    }

    private static Set<String> written(String document, Pattern form) {
        Set<String> calls = new TreeSet<>();
        Matcher m = form.matcher(document);
        while (m.find()) {
            String types = m.group(3).replaceAll("(\\w+) \\w+", "$1");
            String thrown = m.group(4) == null ? "" : " " + m.group(4);
            calls.add(m.group(1) + " " + m.group(2) + "(" + types + ")" + thrown);
        }
        return calls;
    }

    private static void methods() {
        Set<String> names = new TreeSet<>();
        Set<String> visible = new TreeSet<>();
        for (Method m : FabLink.class.getDeclaredMethods()) {
            if (Modifier.isPublic(m.getModifiers())) {
                visible.add(describe(m));
                names.add(m.getName());
            } else {
                Check.yes(m + " is private", Modifier.isPrivate(m.getModifiers()));
            }
        }
        Check.yes("methods: " + visible, visible.equals(face()));
        for (Class<?> inside : FabLink.class.getDeclaredClasses()) {
            for (Method m : inside.getDeclaredMethods()) {
                Check.no(m + " is private and bears a name of the face",
                        Modifier.isPrivate(m.getModifiers()) && names.contains(m.getName()));
            }
        }
    }

    private static String describe(Method m) {
        StringBuilder text = new StringBuilder();
        text.append(m.getReturnType()).append(' ').append(m.getName()).append('(');
        for (int i = 0; i < m.getParameterCount(); i++) {
            text.append(i == 0 ? "" : ", ").append(m.getParameterTypes()[i]);
        }
        text.append(')');
        for (Class<?> e : m.getExceptionTypes()) {
            text.append(' ').append(e.getSimpleName());
        }
        return text.toString();
    }

    private static void constructors() {
        Constructor<?>[] all = FabLink.class.getDeclaredConstructors();
        Check.same("constructors", all.length, 1);
        Check.yes("the constructor is public", Modifier.isPublic(all[0].getModifiers()));
        Check.same("its parameters", all[0].getParameterCount(), 0);
    }

    private static void fields() {
        for (Field f : FabLink.class.getDeclaredFields()) {
            Check.yes(f + " is private", Modifier.isPrivate(f.getModifiers()));
            if (Modifier.isStatic(f.getModifiers())) {
                Check.yes(f + " is final", Modifier.isFinal(f.getModifiers()));
            }
        }
    }

    private static void classesInside() {
        Class<?>[] inside = FabLink.class.getDeclaredClasses();
        Check.yes("some twelve classes at most", inside.length + 1 <= 13);
        for (Class<?> c : inside) {
            Check.yes(c + " is static", Modifier.isStatic(c.getModifiers()));
            Check.no(c + " is public", Modifier.isPublic(c.getModifiers()));
            Check.no(c + " is protected", Modifier.isProtected(c.getModifiers()));
        }
    }
}
