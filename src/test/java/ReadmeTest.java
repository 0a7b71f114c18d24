import java.io.File;
import java.io.IOException;
import java.lang.reflect.Method;
import java.lang.reflect.Modifier;
import java.net.URL;
import java.net.URLClassLoader;
import java.nio.file.Files;
import java.nio.file.Path;
import java.util.ArrayList;
import java.util.Comparator;
import java.util.List;
import java.util.Set;
import java.util.TreeSet;
import java.util.function.BiConsumer;
import java.util.regex.Matcher;
import java.util.regex.Pattern;
import java.util.stream.Collectors;
import java.util.stream.Stream;
import javax.tools.ToolProvider;

/** What README.md shows compiles and answers as it says, its commands run, and it names every test. */
public final class ReadmeTest {
    private static final Check CHECK = new Check("ReadmeTest");
    private static final Path README = Path.of("README.md");
    private static final Path TESTS = Path.of("src/test/java");
    /** A call with its answer behind it: a number, a constant of the face, or one of the least ints and longs. */
    private static final Pattern SHOWN = Pattern.compile("(x\\.(\\w+)\\(.*\\)); +// "
        + "(-?\\d+L?|[A-Z]+|(?:Integer|Long)\\.MIN_VALUE(?: \\+ \\d)?)(?:: .*)?");

    private ReadmeTest() {
    }

    public static void main(String[] args) throws IOException, InterruptedException, ReflectiveOperationException {
        Path room = Files.createTempDirectory("readme");
        try {
            whatItShowsAnswersAsItSays(room);
            everyCallIsShown();
            itsCommandsRun(room);
            itNamesEveryTest();
        } finally {
            clear(room);
        }
        CHECK.end();
    }

    /** The lines of all blocks of a kind, in their order. */
    private static List<String> linesOf(String kind) throws IOException {
        List<String> lines = new ArrayList<>();
        boolean inside = false;
        for (String line : Files.readAllLines(README)) {
            if (line.startsWith("```")) {
                inside = line.equals("```" + kind);
            } else if (inside) {
                lines.add(line);
            }
        }
        return lines;
    }

    private static void whatItShowsAnswersAsItSays(Path room) throws IOException, ReflectiveOperationException {
        StringBuilder program = new StringBuilder("public class Shown {\n");
        program.append("public static void show(java.util.function.BiConsumer<String, long[]> due) {\n");
        for (String line : linesOf("java")) {
            program.append(asked(line)).append('\n');
        }
        Path file = room.resolve("Shown.java");
        Files.writeString(file, program.append("}\n}\n"));
        int code = ToolProvider.getSystemJavaCompiler().run(null, null, null, "-cp",
            System.getProperty("java.class.path"), "-d", room.toString(), file.toString());
        CHECK.due("what README.md shows compiles: exit code", code, 0);
        if (code == 0) {
            BiConsumer<String, long[]> due = (call, values) -> CHECK.due(call, values[0], values[1]);
            try (URLClassLoader loader = new URLClassLoader(new URL[] {room.toUri().toURL()})) {
                loader.loadClass("Shown").getMethod("show", BiConsumer.class).invoke(null, due);
            }
        }
    }

    /** A line of README.md as a line of a program that asks it; a call without an answer would be shown unheld. */
    private static String asked(String line) {
        if (!line.startsWith("x.")) {
            return line;
        }
        Matcher shown = SHOWN.matcher(line);
        if (!shown.matches()) {
            CHECK.due("no answer is shown: " + line, 0, 1);
            return line;
        }
        String answer = shown.group(3).matches("[A-Z]+") ? "HedgehogBorder." + shown.group(3) : shown.group(3);
        String told = shown.group(1).replace("\\", "\\\\").replace("\"", "\\\"");
        return "due.accept(\"" + told + "\", new long[] {" + shown.group(1) + ", " + answer + "});";
    }

    private static void everyCallIsShown() throws IOException {
        Set<String> shown = new TreeSet<>();
        for (String line : linesOf("java")) {
            Matcher matcher = SHOWN.matcher(line);
            if (matcher.matches()) {
                shown.add(matcher.group(2));
            }
        }
        for (Method method : HedgehogBorder.class.getDeclaredMethods()) {
            if (Modifier.isPublic(method.getModifiers())) {
                CHECK.due(method.getName() + "() is shown", shown.contains(method.getName()) ? 1 : 0, 1);
            }
        }
    }

    /** All but .ci/run, which runs this test; in a room of their own, so that nothing is left in the checkout. */
    private static void itsCommandsRun(Path room) throws IOException, InterruptedException {
        Files.createSymbolicLink(room.resolve("src"), Path.of("src").toAbsolutePath());
        List<String> commands = linesOf("sh");
        CHECK.due("it says .ci/run", commands.remove(".ci/run") ? 1 : 0, 1);
        CHECK.due(".ci/run can be run", Files.isExecutable(Path.of(".ci/run")) ? 1 : 0, 1);
        CHECK.due("it says how to run one test", commands.isEmpty() ? 0 : 1, 1);
        for (String command : commands) {
            File said = room.resolve("said").toFile();
            Process process = new ProcessBuilder("sh", "-c", command).directory(room.toFile())
                .redirectErrorStream(true).redirectOutput(said).start();
            int code = process.waitFor();
            CHECK.due(command + ": exit code", code, 0);
            if (code != 0) {
                System.out.println(Files.readString(said.toPath()));
            }
        }
    }

    private static void itNamesEveryTest() throws IOException {
        Set<String> named = new TreeSet<>();
        Matcher rows = Pattern.compile("(?m)^\\| `(\\w+)` \\|").matcher(Files.readString(README));
        while (rows.find()) {
            named.add(rows.group(1));
        }
        Set<String> tests;
        try (Stream<Path> files = Files.list(TESTS)) {
            tests = files.map(file -> file.getFileName().toString()).filter(name -> name.endsWith("Test.java"))
                .map(name -> name.replace(".java", "")).collect(Collectors.toCollection(TreeSet::new));
        }
        if (!named.equals(tests)) {
            System.out.println("README.md names " + named + ", there are " + tests);
        }
        CHECK.due("the tests that it names", named.equals(tests) ? 1 : 0, 1);
    }

    private static void clear(Path room) throws IOException {
        List<Path> all;
        try (Stream<Path> inside = Files.walk(room)) {
            all = inside.sorted(Comparator.reverseOrder()).collect(Collectors.toList());
        }
        for (Path path : all) {
            Files.delete(path);
        }
    }
}
