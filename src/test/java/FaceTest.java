import java.lang.reflect.Constructor;
import java.lang.reflect.Field;
import java.lang.reflect.Method;
import java.lang.reflect.Modifier;
import java.util.Arrays;
import java.util.List;
import java.util.TreeSet;

/** The public face: just the constants, the constructor and the methods of the document. */
public final class FaceTest {
    private static final List<String> METHODS = List.of(
        "int variable(int, boolean)", "int constant(int, long)", "int entry(int, int, int)",
        "int term(int, int, int, int)", "int take(int)", "int back()", "int check()",
        "int flip(int)", "int search(int)", "int model(int)", "long value(int)", "int follows()",
        "int width(int)", "int operation(int)", "int operand(int, int)", "int count(int)");
    private static final List<String> CONSTANTS = List.of(
        "int REFUSED", "int FULL", "int NO", "int YES", "long NONE");

    public static void main(String[] args) {
        Due due = new Due();
        constants(due);
        members(due);
        due.end();
    }

    private static void constants(Due due) {
        due.is("REFUSED", PathSolver.REFUSED, -1);
        due.is("FULL", PathSolver.FULL, -2);
        due.is("NO", PathSolver.NO, 0);
        due.is("YES", PathSolver.YES, 1);
        due.is("NONE", PathSolver.NONE, Long.MIN_VALUE + 1);
    }

    private static void members(Due due) {
        Class<?> face = PathSolver.class;
        due.is("the class's modifiers", face.getModifiers(), Modifier.PUBLIC | Modifier.FINAL);
        Constructor<?>[] constructors = face.getDeclaredConstructors();
        due.is("constructors", constructors.length, 1);
        due.is("the constructor's modifiers", constructors[0].getModifiers(), Modifier.PUBLIC);
        due.is("the constructor's parameters", constructors[0].getParameterCount(), 0);
        TreeSet<String> methods = new TreeSet<>();
        for (Method method : face.getDeclaredMethods()) {
            if (!Modifier.isPrivate(method.getModifiers())) {
                due.is("modifiers of " + method, method.getModifiers(), Modifier.PUBLIC);
                methods.add(textOf(method));
            }
        }
        due.holds("the methods are those of the face: " + methods,
            methods.equals(new TreeSet<>(METHODS)));
        TreeSet<String> fields = new TreeSet<>();
        for (Field field : face.getDeclaredFields()) {
            if (!Modifier.isPrivate(field.getModifiers())) {
                due.is("modifiers of " + field, field.getModifiers(),
                    Modifier.PUBLIC | Modifier.STATIC | Modifier.FINAL);
                fields.add(field.getType() + " " + field.getName());
            }
        }
        due.holds("the fields are those of the face: " + fields,
            fields.equals(new TreeSet<>(CONSTANTS)));
    }

    private static String textOf(Method method) {
        String parameters = Arrays.toString(method.getParameterTypes());
        return method.getReturnType() + " " + method.getName() + "("
            + parameters.substring(1, parameters.length() - 1) + ")";
    }
}
