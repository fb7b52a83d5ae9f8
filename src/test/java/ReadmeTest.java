import java.io.ByteArrayOutputStream;
import java.io.IOException;
import java.io.PrintStream;
import java.lang.reflect.Method;
import java.lang.reflect.Modifier;
import java.net.URLClassLoader;
import java.net.URL;
import java.nio.charset.StandardCharsets;
import java.nio.file.DirectoryStream;
import java.nio.file.Files;
import java.nio.file.Path;
import java.util.TreeSet;
import java.util.regex.Matcher;
import java.util.regex.Pattern;
import javax.tools.ToolProvider;

/** What README.md says is so: its example prints what it says, and its tables name all that there is and nothing else. */
public final class ReadmeTest {
    private static final Path TESTS = Path.of("src", "test", "java");

    public static void main(String[] args) throws Exception {
        String readme = Files.readString(Path.of("README.md"), StandardCharsets.UTF_8);
        Check.sentence("README.md says how the class is used");
        Check.same("what the example prints", printedBy(block(readme, "java")), block(readme, "text"));
        Check.same("the calls", names(tableBehind(readme, "| call |"), "`([a-z]+)\\("), calls());
        Check.sentence("README.md says how it is built");
        Check.same("the classes inside", names(tableBehind(readme, "| class |"), "`([A-Za-z]+)`"), classesInside());
        Check.sentence("README.md says how its tests are run");
        Check.same("the tests", names(readme, "\\| `([A-Za-z]+Test)` \\|"), tests());
        Check.same(".ci/run can be run", Files.isExecutable(Path.of(".ci", "run")), true);
        namedFiles(readme);
        Check.done("ReadmeTest");
    }

    private static String block(String readme, String kind) {
        Matcher m = Pattern.compile("(?s)```" + kind + "\n(.*?)```").matcher(readme);
        return m.find() ? m.group(1) : "";
    }

    private static String tableBehind(String readme, String head) {
        int from = Math.max(readme.indexOf(head), 0);
        int to = readme.indexOf("\n\n", from);
        StringBuilder firstColumn = new StringBuilder();
        for (String row : readme.substring(from, to < 0 ? readme.length() : to).split("\n")) {
            firstColumn.append(row.split(" \\| ")[0]).append("\n");
        }
        return firstColumn.toString();
    }

    private static TreeSet<String> names(String text, String form) {
        TreeSet<String> found = new TreeSet<>();
        Matcher m = Pattern.compile(form).matcher(text);
        while (m.find()) {
            found.add(m.group(1));
        }
        return found;
    }

    private static TreeSet<String> calls() {
        TreeSet<String> found = new TreeSet<>();
        for (Method m : LineSetter.class.getDeclaredMethods()) {
            if (Modifier.isPublic(m.getModifiers())) {
                found.add(m.getName());
            }
        }
        return found;
    }

    private static TreeSet<String> classesInside() {
        TreeSet<String> found = new TreeSet<>();
        for (Class<?> c : LineSetter.class.getDeclaredClasses()) {
            found.add(c.getSimpleName());
        }
        return found;
    }

    private static TreeSet<String> tests() throws IOException {
        TreeSet<String> found = new TreeSet<>();
        try (DirectoryStream<Path> files = Files.newDirectoryStream(TESTS, "*Test.java")) {
            for (Path file : files) {
                found.add(file.getFileName().toString().replace(".java", ""));
            }
        }
        return found;
    }

    private static void namedFiles(String readme) {
        Matcher m = Pattern.compile("(?:src|\\.\\./shared|\\.ci)/[A-Za-z/.]*[A-Za-z]").matcher(readme);
        while (m.find()) {
            Check.same(m.group() + " is there", Files.exists(Path.of(m.group())), true);
        }
    }

    /** The example is a class of its own, as a reader would copy it. */
    private static String printedBy(String example) throws Exception {
        Path folder = Files.createTempDirectory("readme");
        Path file = folder.resolve("Example.java");
        Files.writeString(file, example, StandardCharsets.UTF_8);
        int refused = ToolProvider.getSystemJavaCompiler().run(null, null, null,
                "-cp", System.getProperty("java.class.path"), "-d", folder.toString(), file.toString());
        String printed = refused == 0 ? outputOf(folder) : "javac refuses it";
        for (String name : new String[] {"Example.class", "Example.java", ""}) {
            Files.deleteIfExists(folder.resolve(name));
        }
        return printed;
    }

    private static String outputOf(Path folder) throws Exception {
        PrintStream before = System.out;
        ByteArrayOutputStream bytes = new ByteArrayOutputStream();
        System.setOut(new PrintStream(bytes, true, StandardCharsets.UTF_8));
        try (URLClassLoader loader = new URLClassLoader(new URL[] {folder.toUri().toURL()})) {
            Class<?> example = Class.forName("Example", true, loader);
            example.getMethod("main", String[].class).invoke(null, (Object) new String[0]);
        } finally {
            System.setOut(before);
        }
        return bytes.toString(StandardCharsets.UTF_8).replace("\r\n", "\n");
    }
}
