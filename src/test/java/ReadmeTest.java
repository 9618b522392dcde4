import java.io.ByteArrayOutputStream;
import java.io.PrintStream;
import java.net.URL;
import java.net.URLClassLoader;
import java.nio.charset.StandardCharsets;
import java.nio.file.Files;
import java.nio.file.Path;
import javax.tools.JavaCompiler;
import javax.tools.ToolProvider;

/** The program that README.md shows compiles, and prints what README.md says. */
public final class ReadmeTest {
    public static void main(String[] args) throws Exception {
        String readme = Files.readString(Path.of("README.md"));
        String want = block(readme, "text");
        String got = outputOf(block(readme, "java"));
        if (!got.equals(want)) {
            System.out.println("README.md's program prints:\n" + got + "and README.md says:\n" + want);
        }
        Due due = new Due();
        due.is("README.md says something", want.isEmpty(), false);
        due.is("README.md's program prints what README.md says", got.equals(want), true);
        due.end();
    }

    /** The first block of the page in this language, without its fences. */
    private static String block(String page, String language) {
        String fence = "\n```" + language + "\n";
        int from = page.indexOf(fence);
        int to = page.indexOf("\n```\n", from + fence.length());
        return from < 0 || to < 0 ? "" : page.substring(from + fence.length(), to + 1);
    }

    private static String outputOf(String statements) throws Exception {
        Path folder = Files.createDirectories(Path.of("build", "readme"));
        Path source = folder.resolve("Example.java");
        Files.writeString(source, "public final class Example { public static void main(String[] args) {\n"
            + statements + "} }\n");
        JavaCompiler javac = ToolProvider.getSystemJavaCompiler();
        String path = System.getProperty("java.class.path");
        int answer = javac.run(null, null, null, "-d", folder.toString(), "-cp", path, source.toString());
        return answer == 0 ? run(folder) : "nothing, for it does not compile\n";
    }

    private static String run(Path folder) throws Exception {
        PrintStream before = System.out;
        ByteArrayOutputStream bytes = new ByteArrayOutputStream();
        try (URLClassLoader loader = new URLClassLoader(new URL[] {folder.toUri().toURL()});
                PrintStream caught = new PrintStream(bytes, true, StandardCharsets.UTF_8)) {
            System.setOut(caught);
            loader.loadClass("Example").getMethod("main", String[].class).invoke(null, (Object) new String[0]);
        } finally {
            System.setOut(before);
        }
        return bytes.toString(StandardCharsets.UTF_8).replace("\r\n", "\n");
    }
}
