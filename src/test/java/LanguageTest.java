import java.io.IOException;
import java.lang.reflect.Field;
import java.lang.reflect.Method;
import java.lang.reflect.Modifier;
import java.nio.file.Files;
import java.nio.file.Path;
import java.util.ArrayList;
import java.util.HashSet;
import java.util.List;
import java.util.Set;
import java.util.regex.Matcher;
import java.util.regex.Pattern;

/** The rules of LANGUAGE.md that can be read off the program's classes and its text. */
public final class LanguageTest {
    private static final Path PROGRAM = Path.of("src/main/java/PathSolver.java");
    private static final int MOST_CLASSES = 12;
    private static final int MOST_FIELDS = 20;
    private static final int MOST_PARAMETERS = 7;
    private static final int MOST_LINES = 60;
    private static final String[] NOT_THERE = {"package", "import", "throw", "throws", "try",
        "catch", "finally", "assert", "synchronized", "volatile", "native", "Object", "System",
        "Thread", "double", "float", "protected", "while \\(true\\)", "->", "::", "static \\{",
        "equals", "hashCode", "toString", "\\w+Exact"};
    private static final Pattern METHOD =
        Pattern.compile("( {4}| {8})([a-z]+(\\[\\])? )*(\\w+)\\(.*\\) \\{");

    private static final Due DUE = new Due();

    public static void main(String[] args) throws IOException {
        classes();
        members();
        words();
        methods();
        DUE.end();
    }

    private static List<Class<?>> allClasses() {
        List<Class<?>> all = new ArrayList<>(List.of(PathSolver.class.getDeclaredClasses()));
        all.add(PathSolver.class);
        return all;
    }

    private static void classes() {
        DUE.by("rules 1, 2 and 11: classes");
        DUE.holds("the class has no package", PathSolver.class.getPackageName().isEmpty());
        DUE.holds("there are few classes", allClasses().size() <= MOST_CLASSES);
        for (Class<?> inside : PathSolver.class.getDeclaredClasses()) {
            int modifiers = inside.getModifiers();
            DUE.holds(inside + " is static", Modifier.isStatic(modifiers));
            DUE.holds(inside + " is not to be seen from outside",
                !Modifier.isPublic(modifiers) && !Modifier.isProtected(modifiers));
            DUE.is("classes inside " + inside, inside.getDeclaredClasses().length, 0);
        }
    }

    private static void members() {
        DUE.by("rules 1, 5 and 11: fields and methods");
        Set<String> face = new HashSet<>();
        for (Method method : PathSolver.class.getDeclaredMethods()) {
            if (Modifier.isPublic(method.getModifiers())) {
                face.add(method.getName());
            }
        }
        for (Class<?> each : allClasses()) {
            int fields = 0;
            for (Field field : each.getDeclaredFields()) {
                boolean constant = Modifier.isStatic(field.getModifiers());
                fields += constant ? 0 : 1;
                DUE.holds(field + " is final", !constant || Modifier.isFinal(field.getModifiers()));
            }
            DUE.holds(each + " has few fields", fields <= MOST_FIELDS);
            for (Method method : each.getDeclaredMethods()) {
                DUE.holds(method + " has few parameters",
                    method.getParameterCount() <= MOST_PARAMETERS);
                DUE.holds(method + " has a name of its own",
                    Modifier.isPublic(method.getModifiers()) || !face.contains(method.getName()));
            }
        }
    }

    private static void words() throws IOException {
        DUE.by("rules 2, 3, 4, 6, 9 and 13: what the text does not have");
        String text = Files.readString(PROGRAM).replaceAll("(?s)/\\*.*?\\*/", "")
            .replaceAll("//[^\n]*", "");
        for (String word : NOT_THERE) {
            String whole = Character.isLetter(word.charAt(0)) ? "\\b" + word + "\\b" : word;
            DUE.holds("the text has no " + word, !Pattern.compile(whole).matcher(text).find());
        }
    }

    private static void methods() throws IOException {
        DUE.by("rules 11 and 12: methods are short, and only constructors make objects");
        List<String> lines = Files.readAllLines(PROGRAM);
        int found = 0;
        for (int i = 0; i < lines.size(); i++) {
            Matcher head = METHOD.matcher(lines.get(i));
            if (!head.matches()) {
                continue;
            }
            int length = lines.subList(i, lines.size()).indexOf(head.group(1) + "}") + 1;
            boolean isShort = length > 0 && length <= MOST_LINES;
            DUE.holds("it is short: " + lines.get(i), isShort);
            boolean constructor = Character.isUpperCase(head.group(4).charAt(0));
            String body = String.join("\n", lines.subList(i, i + length));
            DUE.holds("it makes no objects: " + lines.get(i),
                constructor || !body.contains("new "));
            found += constructor ? 0 : 1;
        }
        int declared = 0;
        for (Class<?> each : allClasses()) {
            declared += each.getDeclaredMethods().length;
        }
        DUE.is("methods that were looked at", found, declared);
    }
}
