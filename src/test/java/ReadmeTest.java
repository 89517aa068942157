import java.io.ByteArrayOutputStream;
import java.io.IOException;
import java.io.PrintStream;
import java.net.URL;
import java.net.URLClassLoader;
import java.nio.file.Files;
import java.nio.file.Path;
import javax.tools.ToolProvider;

/** The example of README.md compiles, and prints what README.md says that it prints. */
public final class ReadmeTest {
    private static final Due DUE = new Due();

    public static void main(String[] args) throws Exception {
        String readme = Files.readString(Path.of("README.md"));
        Path folder = Files.createTempDirectory("readme");
        try {
            boolean compiled = compiles(folder, block(readme, "java"));
            DUE.is("whether the example compiles", compiled ? 1 : 0, 1);
            if (compiled) {
                compare(printed(folder), block(readme, "text"));
            }
        } finally {
            clear(folder);
        }
        DUE.end();
    }

    /** What stands in the only fence of a language. */
    private static String block(String readme, String language) {
        String[] parts = readme.split("(?m)^```" + language + "\n");
        DUE.is("fences of " + language, parts.length - 1, 1);
        return parts.length == 2 ? parts[1].split("(?m)^```$")[0] : "";
    }

    private static boolean compiles(Path folder, String example) throws IOException {
        Path file = folder.resolve("Example.java");
        Files.writeString(file, example);
        return ToolProvider.getSystemJavaCompiler().run(null, System.out, System.out,
                "--release", "17", "-Xlint:all", "-Werror",
                "-cp", System.getProperty("java.class.path"), "-d", folder.toString(),
                file.toString()) == 0;
    }

    private static String printed(Path folder) throws Exception {
        PrintStream before = System.out;
        ByteArrayOutputStream said = new ByteArrayOutputStream();
        try (URLClassLoader loader = new URLClassLoader(new URL[] {folder.toUri().toURL()})) {
            System.setOut(new PrintStream(said, true));
            loader.loadClass("Example").getMethod("main", String[].class)
                    .invoke(null, (Object) new String[0]);
        } finally {
            System.setOut(before);
        }
        return said.toString();
    }

    private static void compare(String got, String want) {
        String[] lines = got.split("\\R");
        String[] due = want.split("\\R");
        DUE.is("lines that the example prints", lines.length, due.length);
        for (int i = 0; i < Math.min(lines.length, due.length); i++) {
            DUE.is("the line '" + lines[i] + "' for '" + due[i] + "': whether it is the same",
                    lines[i].equals(due[i]) ? 1 : 0, 1);
        }
    }

    private static void clear(Path folder) throws IOException {
        try (var files = Files.list(folder)) {
            for (Path file : files.toList()) {
                Files.delete(file);
            }
        }
        Files.delete(folder);
    }
}
