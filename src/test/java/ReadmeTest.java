import java.io.ByteArrayOutputStream;
import java.io.File;
import java.io.IOException;
import java.io.PrintStream;
import java.lang.reflect.InvocationTargetException;
import java.net.URL;
import java.net.URLClassLoader;
import java.nio.file.Files;
import java.nio.file.Path;
import java.util.ArrayList;
import java.util.List;
import java.util.regex.Matcher;
import java.util.regex.Pattern;
import javax.tools.ToolProvider;

/** README.md: its example answers what its comments say, and it names every test. */
public final class ReadmeTest {
    public static void main(String[] args) throws IOException, ReflectiveOperationException {
        String page = Files.readString(Path.of("README.md"));
        exampleIsRight(example(page));
        testsAreNamed(page);
        Check.finish();
    }

    private static String example(String page) {
        Matcher block = Pattern.compile("(?s)```java\n(.*?)```").matcher(page);
        Check.isTrue("there is an example", block.find());
        return block.group(1);
    }

    private static void exampleIsRight(String example) throws IOException, ReflectiveOperationException {
        List<String> lines = new ArrayList<>();
        List<String> due = new ArrayList<>();
        Matcher line = Pattern.compile("System\\.out\\.println\\((.*)\\);\\s*// (-?\\d+): ").matcher(example);
        while (line.find()) {
            lines.add(line.group(1));
            due.add(line.group(2));
        }
        Check.due("lines that print have a number that is due", due.size(), example.split("println", -1).length - 1);
        String[] got = printed(example).split("\\R");
        Check.due("lines printed", got.length, due.size());
        for (int k = 0; k < Math.min(got.length, due.size()); k++) {
            Check.due(lines.get(k), Long.parseLong(got[k]), Long.parseLong(due.get(k)));
        }
    }

    /** What the example prints, compiled against the class as this test has it. */
    private static String printed(String example) throws IOException, ReflectiveOperationException {
        Path room = Files.createTempDirectory("readme");
        Path source = room.resolve("Example.java");
        Files.writeString(source, example);
        String classes = System.getProperty("java.class.path");
        int wrong = ToolProvider.getSystemJavaCompiler().run(null, null, null,
            "-cp", classes, "-d", room.toString(), source.toString());
        Check.due("the example compiles", wrong, 0);
        String text = wrong == 0 ? printedByMain(room) : "";
        for (File file : room.toFile().listFiles()) file.delete();
        Files.delete(room);
        return text;
    }

    private static String printedByMain(Path room) throws IOException, ReflectiveOperationException {
        PrintStream before = System.out;
        ByteArrayOutputStream caught = new ByteArrayOutputStream();
        try (URLClassLoader loader = new URLClassLoader(new URL[] {room.toUri().toURL()})) {
            System.setOut(new PrintStream(caught, true));
            loader.loadClass("Example").getMethod("main", String[].class).invoke(null, (Object) new String[0]);
        } catch (InvocationTargetException thrown) {
            Check.isTrue("the example ends: " + thrown.getCause(), false);
        } finally {
            System.setOut(before);
        }
        return caught.toString();
    }

    private static void testsAreNamed(String page) {
        for (String name : new File("src/test/java").list()) {
            if (!name.endsWith("Test.java")) continue;
            String test = name.substring(0, name.length() - ".java".length());
            Check.isTrue("README.md names " + test, page.contains("| " + test + " |"));
        }
        Check.isTrue("README.md tells the command", page.contains("\n    .ci/run\n"));
    }
}
