import java.io.IOException;
import java.lang.reflect.Method;
import java.lang.reflect.Modifier;
import java.net.URL;
import java.net.URLClassLoader;
import java.nio.file.Files;
import java.nio.file.Path;
import java.util.ArrayList;
import java.util.Comparator;
import java.util.List;
import java.util.regex.Matcher;
import java.util.regex.Pattern;
import java.util.stream.Stream;
import javax.tools.ToolProvider;

/** What README.md tells of the class's use: its example is compiled and run, its table read. */
public final class ReadmeTest {
    private static final Path README = Path.of("README.md");
    /** A call with its answer behind it: what takes it, the call, the answer. */
    private static final Pattern TOLD = Pattern.compile("^(\\s*(?:int \\w+ = )?)(x\\.\\w+\\(.*\\));\\s+// (-?\\d+)(?::.*)?$");
    private static final Pattern CALL = Pattern.compile("^\\s*(?:int \\w+ = )?x\\.\\w+\\(.*\\);.*//.*$");
    private static final int FEWEST_CALLS = 30;

    private static int asked = 0;
    private static int wrong = 0;

    /** Called by the example. */
    public static int due(String call, long got, long want) {
        asked++;
        if (got != want) {
            wrong++;
            System.out.println("README.md: " + call + " answered " + got + ", it tells " + want);
        }
        return (int) got;
    }

    private static String example(String readme) {
        Matcher block = Pattern.compile("```java\n(.*?)```", Pattern.DOTALL).matcher(readme);
        return block.find() ? block.group(1) : "";
    }

    private static String checked(String example) {
        List<String> lines = new ArrayList<>();
        for (String line : example.split("\n")) {
            Matcher told = TOLD.matcher(line);
            if (told.matches()) {
                String call = told.group(2);
                lines.add(told.group(1) + "ReadmeTest.due(\"" + call + "\", " + call + ", " + told.group(3) + "L);");
            } else {
                due("a call whose answer can be read: " + line.trim(), CALL.matcher(line).matches() ? 1 : 0, 0);
                lines.add(line);
            }
        }
        return String.join("\n", lines);
    }

    private static void runExample(String readme) throws IOException, ReflectiveOperationException {
        Path dir = Files.createTempDirectory("readme");
        try {
            Path source = dir.resolve("Example.java");
            Files.writeString(source, checked(example(readme)));
            int compiled = ToolProvider.getSystemJavaCompiler().run(null, null, null, "-d", dir.toString(),
                    "-cp", System.getProperty("java.class.path"), source.toString());
            due("javac Example.java", compiled, 0);
            if (compiled == 0) {
                int before = asked;
                try (URLClassLoader loader = new URLClassLoader(new URL[] {dir.toUri().toURL()}, ReadmeTest.class.getClassLoader())) {
                    loader.loadClass("Example").getMethod("main", String[].class).invoke(null, (Object) new String[0]);
                }
                due("as many calls", asked - before >= FEWEST_CALLS ? 1 : 0, 1);
            }
        } finally {
            remove(dir);
        }
    }

    private static void remove(Path dir) throws IOException {
        List<Path> all = new ArrayList<>();
        try (Stream<Path> found = Files.walk(dir)) {
            found.forEach(all::add);
        }
        all.sort(Comparator.reverseOrder());
        for (Path path : all) {
            Files.delete(path);
        }
    }

    /** Every call of the face stands in the table, with as many numbers as it takes. */
    private static void readTable(String readme) {
        for (Method method : SermonPanes.class.getDeclaredMethods()) {
            if (Modifier.isPublic(method.getModifiers())) {
                String numbers = "\\w+(, \\w+){" + (method.getParameterCount() - 1) + "}";
                String call = "`" + method.getName() + "\\(" + (method.getParameterCount() == 0 ? "" : numbers) + "\\)`";
                due(method.getName() + " in the table", Pattern.compile("(?m)^\\| .*" + call + ".* \\|").matcher(readme).find() ? 1 : 0, 1);
            }
        }
    }

    /** Every test of the project is named. */
    private static void readTests(String readme) throws IOException {
        List<Path> tests = new ArrayList<>();
        try (Stream<Path> found = Files.list(Path.of("src", "test", "java"))) {
            found.forEach(tests::add);
        }
        for (Path test : tests) {
            String name = test.getFileName().toString().replace(".java", "");
            due(name + " is named", readme.contains("`" + name + "`") ? 1 : 0, 1);
        }
    }

    public static void main(String[] args) throws IOException, ReflectiveOperationException {
        String readme = Files.readString(README);
        runExample(readme);
        readTable(readme);
        readTests(readme);
        System.out.println(asked - wrong + " answers as due, " + wrong + " not");
        if (wrong != 0) {
            System.exit(1);
        }
    }
}
