import java.io.ByteArrayOutputStream;
import java.io.IOException;
import java.io.PrintStream;
import java.lang.reflect.Method;
import java.lang.reflect.Modifier;
import java.net.URL;
import java.net.URLClassLoader;
import java.nio.charset.StandardCharsets;
import java.nio.file.Files;
import java.nio.file.Path;
import java.util.Comparator;
import java.util.List;
import java.util.stream.Stream;
import javax.tools.ToolProvider;

/** README.md: its program prints what it says, and its tables leave out no call and no test. */
public final class ReadmeTest {
    public static void main(String[] args) throws Exception {
        String readme = Files.readString(Path.of("README.md"));
        String printed = run(between(readme, "```java\n", "```"));
        String told = between(readme, "```text\n", "```");
        Due.is("the program prints\n" + printed + "and README.md says\n" + told, printed.equals(told), true);
        Due.is("it prints something", printed.isEmpty(), false);
        for (Method call : WaveHouse.class.getDeclaredMethods()) {
            if (Modifier.isPublic(call.getModifiers())) {
                Due.is("README.md has " + call.getName(), readme.contains("`" + call.getName() + "("), true);
            }
        }
        try (Stream<Path> files = Files.list(Path.of("src/test/java"))) {
            files.map(file -> file.getFileName().toString()).filter(name -> name.endsWith("Test.java")).forEach(name ->
                Due.is("README.md has " + name, readme.contains("| " + name.replace(".java", "") + " |"), true));
        }
        Due.end();
    }

    private static String between(String text, String start, String end) {
        int from = text.indexOf(start) + start.length();
        return text.contains(start) ? text.substring(from, text.indexOf(end, from)) : "";
    }

    private static String run(String program) throws Exception {
        Path room = Files.createTempDirectory("readme");
        try {
            Path file = Files.writeString(room.resolve("Example.java"), program);
            int code = ToolProvider.getSystemJavaCompiler().run(null, null, null,
                "-cp", System.getProperty("java.class.path"), "-d", room.toString(), file.toString());
            Due.is("the program does not compile", code, 0);
            return code == 0 ? printedBy(room) : "";
        } finally {
            clear(room);
        }
    }

    private static String printedBy(Path room) throws Exception {
        ByteArrayOutputStream bytes = new ByteArrayOutputStream();
        PrintStream before = System.out;
        try (URLClassLoader classes = new URLClassLoader(new URL[] {room.toUri().toURL()})) {
            System.setOut(new PrintStream(bytes, true, StandardCharsets.US_ASCII));
            classes.loadClass("Example").getMethod("main", String[].class).invoke(null, (Object) new String[0]);
        } finally {
            System.setOut(before);
        }
        return bytes.toString(StandardCharsets.US_ASCII).replace("\r\n", "\n");
    }

    private static void clear(Path room) throws IOException {
        try (Stream<Path> files = Files.walk(room)) {
            List<Path> deepestFirst = files.sorted(Comparator.reverseOrder()).toList();
            for (Path file : deepestFirst) {
                Files.delete(file);
            }
        }
    }
}
