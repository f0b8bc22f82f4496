import java.lang.reflect.Constructor;
import java.lang.reflect.Field;
import java.lang.reflect.Method;
import java.lang.reflect.Modifier;
import java.util.Arrays;
import java.util.TreeSet;

/** The public face: the document's members with their exceptions, and no other that is not private. */
public final class FaceTest {
    private static final String INDEX = " throws IndexOutOfBoundsException";
    private static final String INDEX_STATE = INDEX + ", IllegalStateException";
    private static final String INDEX_ARGUMENT = INDEX + ", IllegalArgumentException";
    private static final String ALL = INDEX_ARGUMENT + ", IllegalStateException";

    private static final String[] METHODS = {
        "int hymn(int, int, int, int)" + ALL,
        "int hymns()",
        "int pages(int)" + INDEX,
        "int pageOf(int, int)" + INDEX,
        "int badTurns(int)" + INDEX,
        "int right(int, int, int, int)" + ALL,
        "int end(int, int)" + ALL,
        "boolean hasRight(int, int, int)" + INDEX_ARGUMENT,
        "int print(int, int)" + ALL,
        "int printed(int, int)" + INDEX,
        "boolean learn(int, int)" + INDEX,
        "int service(int, int)" + ALL,
        "int plan(int)" + INDEX_STATE,
        "int hymnOf(int)" + INDEX,
        "int silent()",
        "int sung(int, int)" + INDEX,
        "int sungByHymns(int, int)" + INDEX,
        "int pass(int) throws IllegalArgumentException, IllegalStateException",
    };

    public static void main(String[] args) {
        Check check = new Check();
        constants(check);
        members(check);
        check.end();
    }

    private static void constants(Check check) {
        check.same("NONE", CanticlePress.NONE, -1);
        check.same("SING", CanticlePress.SING, 0);
        check.same("PRINT", CanticlePress.PRINT, 1);
    }

    private static void members(Check check) {
        Class<?> face = CanticlePress.class;
        check.same("the class", Modifier.toString(face.getModifiers()), "public final");
        check.same("the superclass", face.getSuperclass(), Object.class);
        check.same("interfaces", face.getInterfaces().length, 0);
        Constructor<?>[] constructors = face.getDeclaredConstructors();
        check.same("constructors", constructors.length, 1);
        check.same("the constructor", constructors[0].toString(), "public CanticlePress()");

        TreeSet<String> fields = new TreeSet<>();
        for (Field field : face.getDeclaredFields()) {
            if (!Modifier.isPrivate(field.getModifiers())) {
                fields.add(Modifier.toString(field.getModifiers()) + " " + field.getType() + " " + field.getName());
            }
        }
        check.same("fields", fields.toString(),
                "[public static final int NONE, public static final int PRINT, public static final int SING]");

        TreeSet<String> due = new TreeSet<>(Arrays.asList(METHODS));
        TreeSet<String> got = new TreeSet<>();
        TreeSet<String> publicNames = new TreeSet<>();
        for (Method method : face.getDeclaredMethods()) {
            if (!Modifier.isPrivate(method.getModifiers())) {
                check.same("modifiers of " + method.getName(), Modifier.toString(method.getModifiers()), "public");
                got.add(text(method));
                publicNames.add(method.getName());
            }
        }
        check.same("methods", got, due);
        for (Method method : face.getDeclaredMethods()) {
            if (Modifier.isPrivate(method.getModifiers())) {
                String name = method.getName();
                check.same("private " + name + " has a public name", publicNames.contains(name), false);
            }
        }
    }

    private static String text(Method method) {
        String parameters = names(method.getParameterTypes());
        String thrown = names(method.getExceptionTypes());
        return method.getReturnType() + " " + method.getName() + "(" + parameters + ")"
                + (thrown.isEmpty() ? "" : " throws " + thrown);
    }

    private static String names(Class<?>[] classes) {
        StringBuilder text = new StringBuilder();
        for (Class<?> each : classes) {
            text.append(text.length() == 0 ? "" : ", ").append(each.getSimpleName());
        }
        return text.toString();
    }
}
