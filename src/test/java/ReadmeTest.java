import java.io.ByteArrayOutputStream;
import java.io.PrintStream;
import java.lang.reflect.Method;
import java.lang.reflect.Modifier;
import java.net.URL;
import java.net.URLClassLoader;
import java.nio.charset.StandardCharsets;
import java.nio.file.Files;
import java.nio.file.Path;
import java.util.stream.Stream;
import javax.tools.ToolProvider;

/** README.md: its program prints what it says, and it names every call and every test. */
public final class ReadmeTest {
    public static void main(String[] args) throws Exception {
        Check c = new Check("ReadmeTest");
        String readme = Files.readString(Path.of("README.md"));
        String printed = printed(block(readme, "java"));
        c.due("README's program prints:\n" + printed, printed.equals(block(readme, "text")), true);
        for (Method m : KillFollows.class.getDeclaredMethods()) {
            if (Modifier.isPublic(m.getModifiers())) {
                c.due(m.getName() + " stands in the table", readme.matches("(?s).*\\| .*`" + m.getName() + "`.*"), true);
            }
        }
        try (Stream<Path> files = Files.list(Path.of("src/test/java"))) {
            for (String name : files.map(f -> f.getFileName().toString()).filter(f -> f.endsWith("Test.java")).toList()) {
                c.due(name + " stands in the table", readme.contains("| " + name.replace(".java", "") + " |"), true);
            }
        }
        c.end();
    }

    private static String block(String readme, String sort) {
        String begin = "```" + sort + "\n";
        int from = readme.indexOf(begin) + begin.length();
        return readme.substring(from, readme.indexOf("```", from));
    }

    private static String printed(String program) throws Exception {
        Path folder = Files.createTempDirectory("readme");
        Path source = Files.writeString(folder.resolve("Hunt.java"), program);
        String classPath = System.getProperty("java.class.path");
        int wrong = ToolProvider.getSystemJavaCompiler()
                .run(null, null, null, "-cp", classPath, "-d", folder.toString(), source.toString());
        if (wrong != 0) {
            return "nothing: it doesn't compile";
        }
        ByteArrayOutputStream bytes = new ByteArrayOutputStream();
        PrintStream out = System.out;
        try (URLClassLoader loader = new URLClassLoader(new URL[] {folder.toUri().toURL()})) {
            System.setOut(new PrintStream(bytes, true, StandardCharsets.UTF_8));
            loader.loadClass("Hunt").getMethod("main", String[].class).invoke(null, (Object) new String[0]);
        } finally {
            System.setOut(out);
            Files.deleteIfExists(folder.resolve("Hunt.class"));
            Files.delete(source);
            Files.delete(folder);
        }
        return bytes.toString(StandardCharsets.UTF_8).replace("\r\n", "\n");
    }
}
