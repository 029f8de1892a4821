import java.io.ByteArrayOutputStream;
import java.io.IOException;
import java.io.PrintStream;
import java.lang.reflect.Field;
import java.lang.reflect.Method;
import java.lang.reflect.Modifier;
import java.net.URL;
import java.net.URLClassLoader;
import java.nio.charset.StandardCharsets;
import java.nio.file.Files;
import java.nio.file.Path;
import java.util.ArrayList;
import java.util.Comparator;
import java.util.List;
import java.util.regex.Matcher;
import java.util.regex.Pattern;
import java.util.stream.Stream;
import javax.tools.ToolProvider;

/**
 * What README.md shows of the use of the class: each of its Java examples compiles, prints just
 * what stands behind its lines, and together they show the whole face.
 */
public final class ReadmeTest {
    private static final Pattern DUE_BEHIND = Pattern.compile(".*// prints (\\S+)$");
    private static final Due DUE = new Due();

    public static void main(String[] args) throws Exception {
        List<String> lines = Files.readAllLines(Path.of("README.md"));
        List<List<String>> examples = blocks(lines, "java");
        DUE.holds("there are examples", !examples.isEmpty());
        Path build = Files.createTempDirectory("readme");
        try {
            for (int i = 0; i < examples.size(); i++) {
                answersAsItSays(build, "ReadmeExample" + i, examples.get(i));
            }
        } finally {
            delete(build);
        }
        showsTheWholeFace(examples);
        tellsHowToRunTheTests(blocks(lines, "sh"));
        DUE.end();
    }

    /** The lines of each fenced block of a language. */
    private static List<List<String>> blocks(List<String> lines, String language) {
        List<List<String>> blocks = new ArrayList<>();
        List<String> open = null;
        boolean outside = true;
        for (String line : lines) {
            if (line.startsWith("```")) {
                open = outside && line.equals("```" + language) ? new ArrayList<>() : null;
                outside = !outside;
                if (open != null) {
                    blocks.add(open);
                }
            } else if (open != null) {
                open.add(line);
            }
        }
        DUE.holds("each fenced block has an end", outside);
        return blocks;
    }

    private static void answersAsItSays(Path build, String name, List<String> example)
            throws Exception {
        List<String> due = new ArrayList<>();
        for (String line : example) {
            Matcher behind = DUE_BEHIND.matcher(line);
            boolean says = behind.matches();
            DUE.holds(name + " says what is printed by: " + line,
                says == line.contains("System.out.println("));
            if (says) {
                due.add(behind.group(1));
            }
        }
        DUE.holds(name + " prints something", !due.isEmpty());
        boolean compiles = compile(build, name, example);
        DUE.holds(name + " compiles", compiles);
        if (compiles) {
            compare(name, run(build, name), due);
        }
    }

    private static boolean compile(Path build, String name, List<String> example)
            throws IOException {
        Path file = build.resolve(name + ".java");
        Files.writeString(file, "public final class " + name + " {\n"
            + "    public static void main(String[] args) {\n"
            + String.join("\n", example) + "\n    }\n}\n");
        return ToolProvider.getSystemJavaCompiler().run(null, null, null, "--release", "17",
            "-cp", System.getProperty("java.class.path"), "-d", build.toString(),
            file.toString()) == 0;
    }

    private static List<String> run(Path build, String name) throws Exception {
        PrintStream before = System.out;
        ByteArrayOutputStream printed = new ByteArrayOutputStream();
        try (URLClassLoader loader = new URLClassLoader(new URL[] {build.toUri().toURL()})) {
            Method example = loader.loadClass(name).getMethod("main", String[].class);
            System.setOut(new PrintStream(printed, true, StandardCharsets.UTF_8));
            example.invoke(null, (Object) new String[0]);
        } finally {
            System.setOut(before);
        }
        return printed.toString(StandardCharsets.UTF_8).lines().toList();
    }

    private static void compare(String name, List<String> printed, List<String> due) {
        DUE.is("lines that " + name + " prints", printed.size(), due.size());
        for (int i = 0; i < Math.min(printed.size(), due.size()); i++) {
            DUE.holds(name + " prints " + due.get(i) + " in its line " + (i + 1) + ", not "
                + printed.get(i), printed.get(i).equals(due.get(i)));
        }
    }

    private static void showsTheWholeFace(List<List<String>> examples) {
        StringBuilder text = new StringBuilder();
        for (List<String> example : examples) {
            text.append(String.join("\n", example)).append('\n');
        }
        for (Method method : PathSolver.class.getDeclaredMethods()) {
            if (Modifier.isPublic(method.getModifiers())) {
                DUE.holds("an example calls " + method.getName(),
                    text.indexOf("solver." + method.getName() + "(") >= 0);
            }
        }
        for (Field constant : PathSolver.class.getFields()) {
            DUE.holds("an example has " + constant.getName(),
                text.indexOf("PathSolver." + constant.getName()) >= 0);
        }
    }

    private static void tellsHowToRunTheTests(List<List<String>> commands) {
        DUE.holds("the tests are run by .ci/run",
            commands.equals(List.of(List.of(".ci/run"))));
        DUE.holds(".ci/run can be run", Files.isExecutable(Path.of(".ci/run")));
    }

    private static void delete(Path build) throws IOException {
        try (Stream<Path> files = Files.walk(build)) {
            for (Path file : files.sorted(Comparator.reverseOrder()).toList()) {
                Files.delete(file);
            }
        }
    }
}
