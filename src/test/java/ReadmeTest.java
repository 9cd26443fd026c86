import java.io.IOException;
import java.lang.reflect.InvocationTargetException;
import java.net.URL;
import java.net.URLClassLoader;
import java.nio.file.Files;
import java.nio.file.Path;
import javax.tools.JavaCompiler;
import javax.tools.ToolProvider;

/** README.md names every test, and its examples compile against the class and answer what their comments say. */
public final class ReadmeTest {
    private static final Path TESTS = Path.of("src/test/java");

    private ReadmeTest() {
    }

    public static void main(String[] args) throws Exception {
        Check.sentence("README.md says how to use the class and how to run its tests");
        String readme = Files.readString(Path.of("README.md"));
        Check.due("how to run the tests is told", true, readme.contains(".ci/run"));
        namesEveryFile(readme);
        runExamples(readme);
        Check.end();
    }

    private static void namesEveryFile(String readme) throws IOException {
        try (var files = Files.list(TESTS)) {
            for (Path file : files.toList()) {
                String name = file.getFileName().toString().replace(".java", "");
                Check.due("README.md names " + name, true, readme.contains("`" + name + "`"));
            }
        }
    }

    /** A line of an example that ends in "// is VALUE" is held to that value. */
    private static void runExamples(String readme) throws Exception {
        StringBuilder body = new StringBuilder();
        boolean inside = false;
        int held = 0;
        for (String line : readme.lines().toList()) {
            if (line.startsWith("```")) {
                inside = line.equals("```java");
            } else if (inside) {
                body.append(line.contains("// is ") ? heldTo(line) : line).append('\n');
                held += line.contains("// is ") ? 1 : 0;
            }
        }
        Check.due("an example has answers to be held to", true, held > 0);
        run("public final class Example {\n    public static void main(String[] args) {\n" + body + "    }\n}\n");
    }

    private static String heldTo(String line) {
        int comment = line.indexOf("// is ");
        String call = line.substring(0, comment).strip().replaceAll(";$", "");
        String value = line.substring(comment + "// is ".length()).strip();
        String quoted = call.replace("\"", "\\\"");
        return "if ((" + call + ") != " + value + ") { throw new AssertionError(\"" + quoted + "\"); }";
    }

    private static void run(String source) throws Exception {
        Path directory = Files.createTempDirectory("readme");
        Path file = directory.resolve("Example.java");
        Files.writeString(file, source);
        String path = System.getProperty("java.class.path");
        JavaCompiler compiler = ToolProvider.getSystemJavaCompiler();
        int failed = compiler.run(null, null, null, "-cp", path, "-d", directory.toString(), file.toString());
        Check.due("the examples compile", 0, failed);
        try (URLClassLoader loader = new URLClassLoader(new URL[] {directory.toUri().toURL()})) {
            loader.loadClass("Example").getMethod("main", String[].class).invoke(null, (Object) new String[0]);
        } catch (InvocationTargetException e) {
            Check.say("an example does not hold: " + e.getCause());
        } catch (ClassNotFoundException e) {
            Check.say("no example could be run");
        }
        Files.deleteIfExists(directory.resolve("Example.class"));
        Files.deleteIfExists(file);
        Files.deleteIfExists(directory);
    }
}
