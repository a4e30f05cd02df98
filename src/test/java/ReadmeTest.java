import java.io.ByteArrayOutputStream;
import java.io.IOException;
import java.io.PrintStream;
import java.net.URL;
import java.net.URLClassLoader;
import java.nio.file.Files;
import java.nio.file.Path;
import java.util.List;
import javax.tools.ToolProvider;

/** README.md's example compiles, and prints what README.md says. */
final class ReadmeTest {
    private static final String CLASS = "Example";

    public static void main(String[] args) throws Exception {
        Check check = new Check();
        List<String> readme = Files.readAllLines(Path.of("README.md"));
        String got = printedBy(block(readme, "```java"));
        String due = block(readme, "```text");
        System.out.println("the example prints: " + got.replace("\n", " / "));
        check.same("there is an example (1: there is)", due.isEmpty() ? 0 : 1, 1);
        check.same("the example prints what README.md says (1: it does)", got.equals(due) ? 1 : 0, 1);
        check.end();
    }

    /** The lines of the first block that begins so; none when there is no such block. */
    private static String block(List<String> lines, String beginning) {
        StringBuilder found = new StringBuilder();
        int at = lines.indexOf(beginning) + 1;
        while (at > 0 && at < lines.size() && !lines.get(at).equals("```")) {
            found.append(lines.get(at)).append('\n');
            at++;
        }
        return found.toString();
    }

    private static String printedBy(String example) throws Exception {
        Path folder = Files.createTempDirectory("readme");
        Path source = folder.resolve(CLASS + ".java");
        Path compiled = folder.resolve(CLASS + ".class");
        try {
            Files.writeString(source, "public class " + CLASS + " { public static void run() {\n" + example + "} }\n");
            int code = ToolProvider.getSystemJavaCompiler().run(null, null, null, "-cp",
                    System.getProperty("java.class.path"), "-d", folder.toString(), source.toString());
            return code == 0 ? printedFrom(folder) : "";
        } finally {
            remove(source, compiled, folder);
        }
    }

    private static String printedFrom(Path folder) throws Exception {
        PrintStream before = System.out;
        ByteArrayOutputStream bytes = new ByteArrayOutputStream();
        try (URLClassLoader loader = new URLClassLoader(new URL[] {folder.toUri().toURL()});
                PrintStream kept = new PrintStream(bytes)) {
            System.setOut(kept);
            loader.loadClass(CLASS).getMethod("run").invoke(null);
        } finally {
            System.setOut(before);
        }
        return bytes.toString().replace("\r\n", "\n");
    }

    private static void remove(Path... paths) throws IOException {
        for (Path path : paths) {
            Files.deleteIfExists(path);
        }
    }
}
