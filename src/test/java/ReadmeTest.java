import java.io.ByteArrayOutputStream;
import java.io.PrintStream;
import java.lang.reflect.Method;
import java.lang.reflect.Modifier;
import java.net.URL;
import java.net.URLClassLoader;
import java.nio.charset.StandardCharsets;
import java.nio.file.Files;
import java.nio.file.Path;
import java.util.ArrayList;
import java.util.Comparator;
import java.util.List;
import java.util.TreeMap;
import java.util.TreeSet;
import java.util.regex.Matcher;
import java.util.regex.Pattern;
import java.util.stream.Stream;
import javax.tools.ToolProvider;

/** What README.md says of the class is so. It is read from where the test is started. */
public final class ReadmeTest {
    private static final Pattern ROW = Pattern.compile("\\| `(\\w+)\\(([^)]*)\\)` \\| .* \\| (.*) \\|");
    private static final Pattern PRINTED = Pattern.compile("System\\.out\\.println\\(.*\\); +// (.*)");

    public static void main(String[] args) throws Exception {
        String readme = Files.readString(Path.of("README.md"));
        tablesHaveTheFace(readme);
        exampleAnswers(readme);
        Script.end();
    }

    /** The order of exceptions within a row is no matter of the face; RefusedCallsTest has it. */
    private static void tablesHaveTheFace(String readme) {
        TreeMap<String, String> rows = new TreeMap<>();
        for (String line : readme.split("\n")) {
            Matcher row = ROW.matcher(line);
            if (row.matches()) {
                Script.compare(row.group(1) + " stands once", "" + rows.get(row.group(1)), "null");
                rows.put(row.group(1), row.group(2).split(", ").length + " " + thrownIn(row.group(3)));
            }
        }
        TreeMap<String, String> face = new TreeMap<>();
        for (Method method : ContainerKit.class.getDeclaredMethods()) {
            if (Modifier.isPublic(method.getModifiers())) {
                face.put(method.getName(), method.getParameterCount() + " " + thrownBy(method));
            }
        }
        Script.compare("calls in the tables", rows.keySet().toString(), face.keySet().toString());
        for (String name : face.keySet()) {
            Script.compare("row of " + name, "" + rows.get(name), face.get(name));
        }
    }

    private static TreeSet<String> thrownIn(String cell) {
        TreeSet<String> names = new TreeSet<>();
        for (String part : cell.split("; ")) {
            names.add(part.replaceFirst(":.*", ""));
        }
        return names;
    }

    private static TreeSet<String> thrownBy(Method method) {
        TreeSet<String> names = new TreeSet<>();
        for (Class<?> thrown : method.getExceptionTypes()) {
            names.add(Script.shortName(thrown.getSimpleName()));
        }
        return names;
    }

    private static void exampleAnswers(String readme) throws Exception {
        String code = readme.replaceFirst("(?s).*?```java\n", "").replaceFirst("(?s)```.*", "");
        List<String> due = new ArrayList<>();
        Matcher printed = PRINTED.matcher(code);
        while (printed.find()) {
            due.add(printed.group(1));
        }
        Script.compare("the example prints something", "" + !due.isEmpty(), "true");
        Path build = Files.createTempDirectory("readme");
        try {
            Script.compare("the example's output", output(code, build), due.toString());
        } finally {
            delete(build);
        }
    }

    private static String output(String code, Path build) throws Exception {
        Path source = Files.writeString(build.resolve("Example.java"), code);
        int refused = ToolProvider.getSystemJavaCompiler().run(null, null, null, "-cp",
            System.getProperty("java.class.path"), "-d", build.toString(), source.toString());
        if (refused != 0) {
            return "it is not compiled";
        }
        ByteArrayOutputStream bytes = new ByteArrayOutputStream();
        PrintStream before = System.out;
        try (URLClassLoader loader = new URLClassLoader(new URL[] {build.toUri().toURL()})) {
            System.setOut(new PrintStream(bytes, true, StandardCharsets.UTF_8));
            loader.loadClass("Example").getMethod("main", String[].class).invoke(null, (Object) new String[0]);
        } finally {
            System.setOut(before);
        }
        return bytes.toString(StandardCharsets.UTF_8).lines().toList().toString();
    }

    private static void delete(Path directory) throws Exception {
        try (Stream<Path> files = Files.walk(directory)) {
            for (Path file : files.sorted(Comparator.reverseOrder()).toList()) {
                Files.delete(file);
            }
        }
    }
}
