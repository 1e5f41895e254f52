import java.io.ByteArrayOutputStream;
import java.io.IOException;
import java.io.PrintStream;
import java.lang.reflect.Method;
import java.net.URL;
import java.net.URLClassLoader;
import java.nio.charset.StandardCharsets;
import java.nio.file.Files;
import java.nio.file.Path;
import java.util.Arrays;
import java.util.Set;
import java.util.TreeSet;
import java.util.regex.Matcher;
import java.util.regex.Pattern;
import java.util.stream.Collectors;
import java.util.stream.Stream;
import javax.tools.ToolProvider;

/** README.md holds: its example compiles and prints what it says, and its table of calls names the whole face. */
public final class ReadmeTest {
    private ReadmeTest() {
    }

    public static void main(String[] args) throws Exception {
        String readme = Files.readString(Path.of(args.length > 0 ? args[0] : ".", "README.md"));
        String printed = outputOf(block(readme, "java"));
        Check.due(block(readme, "text"), () -> printed);
        Check.due(namesOfFace(), () -> namesInTable(readme));
        Check.end("ReadmeTest");
    }

    private static String block(String readme, String kind) {
        String start = "```" + kind + "\n";
        int from = readme.indexOf(start) + start.length();
        return readme.substring(from, readme.indexOf("```", from));
    }

    private static String outputOf(String example) throws Exception {
        Path directory = Files.createTempDirectory("readme");
        try {
            Path source = Files.writeString(directory.resolve("Example.java"), example);
            int code = ToolProvider.getSystemJavaCompiler().run(null, null, null,
                    "-cp", System.getProperty("java.class.path"), "-d", directory.toString(), source.toString());
            return code == 0 ? mainOf(directory) : "the example does not compile";
        } finally {
            remove(directory);
        }
    }

    private static String mainOf(Path directory) throws Exception {
        PrintStream screen = System.out;
        ByteArrayOutputStream printed = new ByteArrayOutputStream();
        try (URLClassLoader loader = new URLClassLoader(new URL[] {directory.toUri().toURL()})) {
            Method main = loader.loadClass("Example").getMethod("main", String[].class);
            System.setOut(new PrintStream(printed, true, StandardCharsets.UTF_8));
            main.invoke(null, (Object) new String[0]);
        } finally {
            System.setOut(screen);
        }
        return printed.toString(StandardCharsets.UTF_8).replace(System.lineSeparator(), "\n");
    }

    private static void remove(Path directory) throws IOException {
        try (Stream<Path> files = Files.list(directory)) {
            for (Path file : files.collect(Collectors.toList())) {
                Files.delete(file);
            }
        }
        Files.delete(directory);
    }

    private static Set<String> namesOfFace() {
        return Arrays.stream(TerraceQuarry.class.getMethods())
                .filter(method -> method.getDeclaringClass() == TerraceQuarry.class)
                .map(Method::getName)
                .collect(Collectors.toCollection(TreeSet::new));
    }

    private static Set<String> namesInTable(String readme) {
        int from = readme.indexOf("| for | calls |");
        String table = readme.substring(from, readme.indexOf("\n\n", from));
        Set<String> names = new TreeSet<>();
        Matcher name = Pattern.compile("`(\\w+)`").matcher(table);
        while (name.find()) {
            names.add(name.group(1));
        }
        return names;
    }
}
