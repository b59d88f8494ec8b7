import java.io.ByteArrayOutputStream;
import java.io.IOException;
import java.io.PrintStream;
import java.net.URL;
import java.net.URLClassLoader;
import java.nio.charset.StandardCharsets;
import java.nio.file.Files;
import java.nio.file.Path;
import java.util.ArrayList;
import java.util.List;
import java.util.regex.Matcher;
import java.util.regex.Pattern;
import javax.tools.JavaCompiler;
import javax.tools.ToolProvider;

/** The example in README.md compiles, and prints what README.md says behind each printed answer. */
public final class ReadmeTest {
    private static final Checks CHECKS = new Checks("ReadmeTest");
    private static final Pattern PRINTED = Pattern.compile("System\\.out\\.println\\(.*\\);\\s*// ([^\\s,]+)");

    public static void main(String[] args) throws IOException, ReflectiveOperationException {
        String example = exampleOf(Files.readString(Path.of("README.md")));
        Path folder = Files.createTempDirectory("readme");
        Path source = Files.writeString(folder.resolve("Example.java"), example);
        try {
            CHECKS.same("compiling it", compile(source, folder), 0);
            List<String> want = promisedLines(example);
            CHECKS.same("answers in it", want.isEmpty() ? 0 : 1, 1);
            CHECKS.sameText("what it prints", String.join("\n", printedLines(folder)), String.join("\n", want));
        } finally {
            remove(folder);
        }
        CHECKS.finish();
    }

    private static String exampleOf(String readme) {
        int start = readme.indexOf("```java") + "```java".length();
        return readme.substring(start, readme.indexOf("```", start));
    }

    private static int compile(Path source, Path folder) {
        JavaCompiler compiler = ToolProvider.getSystemJavaCompiler();
        return compiler.run(null, null, null, "-d", folder.toString(), "-cp", System.getProperty("java.class.path"), source.toString());
    }

    private static List<String> promisedLines(String example) {
        List<String> promised = new ArrayList<>();
        Matcher found = PRINTED.matcher(example);
        while (found.find()) {
            promised.add(found.group(1));
        }
        return promised;
    }

    private static List<String> printedLines(Path folder) throws IOException, ReflectiveOperationException {
        PrintStream before = System.out;
        ByteArrayOutputStream printed = new ByteArrayOutputStream();
        try (URLClassLoader loader = new URLClassLoader(new URL[] {folder.toUri().toURL()})) {
            System.setOut(new PrintStream(printed, true, StandardCharsets.UTF_8));
            loader.loadClass("Example").getMethod("main", String[].class).invoke(null, (Object) new String[0]);
        } finally {
            System.setOut(before);
        }
        return printed.toString(StandardCharsets.UTF_8).lines().toList();
    }

    private static void remove(Path folder) throws IOException {
        try (var files = Files.list(folder)) {
            for (Path file : files.toList()) {
                Files.delete(file);
            }
        }
        Files.delete(folder);
    }
}
