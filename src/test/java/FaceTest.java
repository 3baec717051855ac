import java.lang.reflect.Constructor;
import java.lang.reflect.Field;
import java.lang.reflect.Method;
import java.lang.reflect.Modifier;
import java.util.Arrays;
import java.util.HashSet;
import java.util.Set;
import java.util.TreeSet;

/** The public face: its members, their types, and the exceptions that they name; and nothing beside it. */
public final class FaceTest {
    private static final String INDEX = " IndexOutOfBoundsException";
    private static final String ARGUMENT = " IllegalArgumentException";
    private static final String STATE = " IllegalStateException";
    private static final String[] METHODS = {
        "int wall(int, int)" + ARGUMENT + STATE,
        "void weather(int, int)" + ARGUMENT,
        "int damp(int, int)" + INDEX + ARGUMENT,
        "boolean joint(int, int)" + INDEX,
        "int coat(int, int, int, int, int)" + INDEX + ARGUMENT + STATE,
        "int scratch(int, int, int)" + INDEX + ARGUMENT + STATE,
        "int strike(int, int)" + INDEX + STATE,
        "int pass(int)" + ARGUMENT + STATE,
        "int ofCoat(int, int, int, int)" + INDEX + ARGUMENT,
        "int coatsAnew(int, int)" + INDEX,
        "char text(int, int, int, int)" + INDEX,
        "int profile(int)" + ARGUMENT + STATE,
        "int depth(int, int)" + INDEX + ARGUMENT + STATE,
        "float mitre(int, int)" + INDEX,
        "int fits(int, int)" + ARGUMENT,
        "float step(int, int)" + ARGUMENT,
        "int cut(int, int, int)" + ARGUMENT,
        "int window(int, int)" + INDEX + ARGUMENT,
        "int patch(long)" + ARGUMENT + STATE,
        "int paint(int, int, long, boolean)" + INDEX + STATE,
        "int ofCell(int, int)" + INDEX + ARGUMENT,
        "int over(int)" + INDEX,
        "int tells(int, int, int, int, int, int)" + ARGUMENT,
        "int pins(long)",
        "int bill(int, int, int)" + INDEX + ARGUMENT};
    private static final String[] CONSTANTS = {"NONE -1", "LATH 0", "BRICK 1", "STONE 2",
        "UNCLEAR 0", "RISING 1", "DRIVEN 2", "DEW 3"};
    private static final Check check = new Check("FaceTest");

    public static void main(String[] args) throws IllegalAccessException {
        Class<?> face = Stuccohand.class;
        check.due("the class's modifiers", Modifier.PUBLIC | Modifier.FINAL, face.getModifiers());
        check.due("the class above", Object.class, face.getSuperclass());
        check.due("interfaces", 0, face.getInterfaces().length);
        methods(face);
        constants(face);
        constructors(face);
        for (Class<?> inside : face.getDeclaredClasses()) {
            int kind = inside.getModifiers();
            check.due(inside + " is static", true, Modifier.isStatic(kind));
            check.due(inside + " is hidden", false, Modifier.isPublic(kind) || Modifier.isProtected(kind));
            fieldsOf(inside);
        }
        check.finish();
    }

    private static void methods(Class<?> face) {
        Set<String> found = new TreeSet<>();
        Set<String> names = new HashSet<>();
        for (Method method : face.getDeclaredMethods()) {
            if (Modifier.isPublic(method.getModifiers())) {
                found.add(written(method));
                names.add(method.getName());
                check.due(method + " modifiers", Modifier.PUBLIC, method.getModifiers());
            }
        }
        check.due("the methods", new TreeSet<>(Arrays.asList(METHODS)), found);
        for (Method method : face.getDeclaredMethods()) {
            int kind = method.getModifiers();
            if (!Modifier.isPublic(kind)) {
                check.due(method + " is private", true, Modifier.isPrivate(kind));
                check.due(method + " bears a public name", false, names.contains(method.getName()));
            }
        }
    }

    private static String written(Method method) {
        StringBuilder text = new StringBuilder(method.getReturnType().getSimpleName());
        text.append(' ').append(method.getName()).append('(');
        String between = "";
        for (Class<?> type : method.getParameterTypes()) {
            text.append(between).append(type.getSimpleName());
            between = ", ";
        }
        text.append(')');
        for (Class<?> type : method.getExceptionTypes()) {
            text.append(' ').append(type.getSimpleName());
        }
        return text.toString();
    }

    private static void constants(Class<?> face) throws IllegalAccessException {
        Set<String> found = new TreeSet<>();
        for (Field field : face.getDeclaredFields()) {
            int kind = field.getModifiers();
            if (Modifier.isPublic(kind)) {
                check.due(field + " is a constant", true, Modifier.isStatic(kind) && Modifier.isFinal(kind));
                found.add(field.getName() + " " + field.getInt(null));
            } else {
                check.due(field + " is private", true, Modifier.isPrivate(kind));
                check.due(field + " is final, if static", true, !Modifier.isStatic(kind) || Modifier.isFinal(kind));
            }
        }
        check.due("the constants", new TreeSet<>(Arrays.asList(CONSTANTS)), found);
    }

    private static void fieldsOf(Class<?> inside) {
        Field[] fields = inside.getDeclaredFields();
        check.due(inside + " has at most some twenty fields", true, fields.length <= 20);
        for (Field field : fields) {
            int kind = field.getModifiers();
            check.due(field + " is final, if static", true, !Modifier.isStatic(kind) || Modifier.isFinal(kind));
            if (inside.isEnum() && !Modifier.isStatic(kind)) {
                Class<?> type = field.getType();
                check.due(field + " is of a type that an enum may have", true,
                        type == int.class || type == long.class || type == boolean.class || type == String.class);
            }
        }
    }

    private static void constructors(Class<?> face) {
        Constructor<?>[] all = face.getDeclaredConstructors();
        check.due("constructors", 1, all.length);
        check.due("the constructor", Modifier.PUBLIC, all[0].getModifiers());
        check.due("its arguments", 0, all[0].getParameterCount());
    }
}
