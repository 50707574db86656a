import java.io.ByteArrayOutputStream;
import java.io.IOException;
import java.io.PrintStream;
import java.lang.reflect.Method;
import java.lang.reflect.Modifier;
import java.net.URL;
import java.net.URLClassLoader;
import java.nio.charset.StandardCharsets;
import java.nio.file.Files;
import java.nio.file.Path;
import java.util.Comparator;
import java.util.List;
import java.util.Set;
import java.util.TreeSet;
import java.util.regex.Matcher;
import java.util.regex.Pattern;
import java.util.stream.Collectors;
import java.util.stream.Stream;
import javax.tools.JavaCompiler;
import javax.tools.ToolProvider;

/** README.md says how to use the class and how to run its tests, and what it says is so. */
public final class ReadmeTest {
    private static final Path README = Path.of("README.md");
    private static final Path PROGRAM = Path.of("src/main/java/InventedBirthdays.java");
    private static final Path TESTS = Path.of("tests");
    private static final Path CI = Path.of(".ci/run");

    private static int checks;
    private static int wrong;

    public static void main(String[] args) throws Exception {
        String readme = Files.readString(README);
        theExamplePrintsWhatIsSaid(readme);
        eachCallIsNamed(readme);
        eachTestIsNamed(readme);
        theNamedFilesExist(readme);
        System.out.println(checks + " checks of the README, " + wrong + " wrong");
        if (wrong != 0) {
            System.exit(1);
        }
    }

    private static void theExamplePrintsWhatIsSaid(String readme) throws Exception {
        String program = block(readme, "java");
        String due = block(readme, "text");
        check(!program.isEmpty() && !due.isEmpty(), "there is an example, and what it prints");
        Path directory = Files.createTempDirectory("readme");
        try {
            check(due.equals(printed(program, directory)), "the example prints what the README says");
        } finally {
            delete(directory);
        }
    }

    private static String block(String readme, String language) {
        Matcher matcher = Pattern.compile("(?s)\n```" + language + "\n(.*?)```\n").matcher(readme);
        return matcher.find() ? matcher.group(1) : "";
    }

    private static String printed(String program, Path directory) throws Exception {
        Path source = directory.resolve("Party.java");
        Files.writeString(source, program);
        JavaCompiler compiler = ToolProvider.getSystemJavaCompiler();
        if (compiler == null || compiler.run(null, null, null, "-Xlint:all", "-d", directory.toString(), PROGRAM.toString(), source.toString()) != 0) {
            return "it does not compile";
        }
        PrintStream console = System.out;
        ByteArrayOutputStream bytes = new ByteArrayOutputStream();
        System.setOut(new PrintStream(bytes, true, StandardCharsets.UTF_8));
        // Without a parent the example sees the class that was compiled beside it, and nothing of the tests.
        try (URLClassLoader loader = new URLClassLoader(new URL[] {directory.toUri().toURL()}, null)) {
            loader.loadClass("Party").getMethod("main", String[].class).invoke(null, (Object) new String[0]);
        } finally {
            System.setOut(console);
        }
        return bytes.toString(StandardCharsets.UTF_8).replace("\r\n", "\n");
    }

    private static void delete(Path directory) throws IOException {
        List<Path> paths;
        try (Stream<Path> walk = Files.walk(directory)) {
            paths = walk.sorted(Comparator.reverseOrder()).collect(Collectors.toList());
        }
        for (Path path : paths) {
            Files.delete(path);
        }
    }

    private static void eachCallIsNamed(String readme) {
        Set<String> calls = new TreeSet<>();
        for (Method method : InventedBirthdays.class.getDeclaredMethods()) {
            if (Modifier.isPublic(method.getModifiers())) {
                calls.add(method.getName());
            }
        }
        check(calls.equals(named(readme)), "the table names the calls of the face and no others");
        check(readme.contains("`NONE`"), "the README names NONE");
    }

    /** The names in the first column of the table. */
    private static Set<String> named(String readme) {
        Set<String> names = new TreeSet<>();
        Matcher row = Pattern.compile("(?m)^\\| (`[^|]*) \\|").matcher(readme);
        while (row.find()) {
            for (String name : row.group(1).split(", ")) {
                names.add(name.replace("`", ""));
            }
        }
        return names;
    }

    private static void eachTestIsNamed(String readme) throws IOException {
        Set<String> tests;
        try (Stream<Path> files = Files.list(TESTS)) {
            tests = files.map(file -> file.getFileName().toString()).filter(name -> name.endsWith(".java"))
                    .map(name -> name.substring(0, name.length() - 5)).collect(Collectors.toCollection(TreeSet::new));
        }
        Set<String> described = new TreeSet<>();
        Matcher matcher = Pattern.compile("(?m)^- `([A-Za-z]+Test)`").matcher(readme);
        while (matcher.find()) {
            described.add(matcher.group(1));
        }
        check(tests.equals(described), "the README describes the tests " + tests);
        check(readme.contains("\n    .ci/run\n") && Files.isExecutable(CI), "the README tells how to run them all");
    }

    private static void theNamedFilesExist(String readme) {
        Matcher matcher = Pattern.compile("(?:\\.\\./shared|src|tests)/[A-Za-z/.]*[A-Za-z]").matcher(readme);
        while (matcher.find()) {
            check(Files.exists(Path.of(matcher.group())), matcher.group() + " exists");
        }
    }

    private static void check(boolean condition, String what) {
        checks++;
        if (!condition) {
            wrong++;
            System.out.println("not so: " + what);
        }
    }
}
