import java.io.ByteArrayOutputStream;
import java.io.IOException;
import java.io.PrintStream;
import java.lang.reflect.Method;
import java.lang.reflect.Modifier;
import java.net.URL;
import java.net.URLClassLoader;
import java.nio.charset.StandardCharsets;
import java.nio.file.Files;
import java.nio.file.Path;
import java.util.ArrayList;
import java.util.List;
import java.util.TreeSet;
import java.util.regex.Matcher;
import java.util.regex.Pattern;
import java.util.stream.Stream;
import javax.tools.ToolProvider;

/** The example of README.md, compiled and run as it is written: each line prints what the comment behind it tells. */
final class ReadmeTest {
    private static final Path README = Path.of("README.md");
    private static final Path PROGRAM = Path.of("src/main/java/EditorServer.java");
    private static final Path TESTS = Path.of("src/test/java");

    public static void main(String[] args) throws Exception {
        String readme = Files.readString(README);
        Session s = new Session("readme");
        String example = exampleIn(readme);
        List<String> printed = printedBy(example);
        List<String> told = toldIn(example);
        s.due("lines printed", printed::size, told.size());
        for (int i = 0; i < Math.min(told.size(), printed.size()); i++) {
            String line = printed.get(i);
            s.due("line " + (i + 1), () -> line, told.get(i));
        }
        everyCallIsShown(s, readme, example);
        everyTestIsNamed(s, readme);
        Session.end();
    }

    private static String exampleIn(String readme) {
        Matcher block = Pattern.compile("```java\n(.*?)```", Pattern.DOTALL).matcher(readme);
        return block.find() ? block.group(1) : "";
    }

    /** What stands behind println's // up to a comma and a blank. */
    private static List<String> toldIn(String example) {
        List<String> told = new ArrayList<>();
        Matcher line = Pattern.compile("println\\(.*\\); +// (.*)").matcher(example);
        while (line.find()) {
            told.add(line.group(1).split(", ")[0]);
        }
        return told;
    }

    private static List<String> printedBy(String example) throws Exception {
        Path out = Files.createTempDirectory("readme");
        try {
            Path file = Files.writeString(out.resolve("Example.java"), example);
            int code = ToolProvider.getSystemJavaCompiler().run(null, null, null, "-Xlint:all", "-Werror", "-d",
                out.toString(), PROGRAM.toString(), file.toString());
            return code == 0 ? run(out) : List.of("the example does not compile");
        } finally {
            delete(out);
        }
    }

    private static List<String> run(Path classes) throws Exception {
        PrintStream before = System.out;
        ByteArrayOutputStream printed = new ByteArrayOutputStream();
        // No parent that knows the tests' classes: the example must do with itself and the program.
        try (URLClassLoader loader = new URLClassLoader(new URL[] {classes.toUri().toURL()},
            ClassLoader.getPlatformClassLoader())) {
            Method main = loader.loadClass("Example").getMethod("main", String[].class);
            System.setOut(new PrintStream(printed, true, StandardCharsets.UTF_8));
            main.invoke(null, (Object) new String[0]);
        } finally {
            System.setOut(before);
        }
        return printed.toString(StandardCharsets.UTF_8).lines().toList();
    }

    private static void delete(Path folder) throws IOException {
        try (Stream<Path> files = Files.list(folder)) {
            for (Path file : files.toList()) {
                Files.delete(file);
            }
        }
        Files.delete(folder);
    }

    private static void everyCallIsShown(Session s, String readme, String example) {
        for (Method method : EditorServer.class.getDeclaredMethods()) {
            String call = method.getName() + "(";
            if (Modifier.isPublic(method.getModifiers())) {
                s.due("the table has " + call, () -> readme.contains("| `" + call), true);
                s.due("the example has " + call, () -> example.contains("server." + call), true);
            }
        }
    }

    private static void everyTestIsNamed(Session s, String readme) throws IOException {
        TreeSet<String> tests = new TreeSet<>();
        try (Stream<Path> files = Files.list(TESTS)) {
            files.forEach(file -> tests.add(file.getFileName().toString().replace(".java", "")));
        }
        for (String test : tests) {
            s.due("the table of tests has " + test, () -> readme.contains("`" + test + "`"), true);
        }
    }
}
