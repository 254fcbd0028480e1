import java.lang.reflect.Constructor;
import java.lang.reflect.Field;
import java.lang.reflect.Method;
import java.lang.reflect.Modifier;
import java.util.Arrays;
import java.util.TreeSet;

/** The public face: the document's constructor and methods, and nothing else that is not private. */
public final class FaceTest {
    private static final String[] FACE = {
        "boolean cut(int, int)",
        "boolean link(int, int, int, int)",
        "boolean lose(int, int)",
        "boolean priority(int, int)",
        "boolean set(int, int, int, int)",
        "int deliver(int, int) java.lang.IndexOutOfBoundsException",
        "int learned(int, int, int)",
        "int line(int, int)",
        "int port(int, int)",
        "int send(int, int, int) java.lang.IndexOutOfBoundsException"
                + " java.lang.IllegalStateException java.lang.IllegalArgumentException",
        "long inbox(int, int)",
        "long info(int, int)",
        "long message(int, int, int)",
        "long root(int)",
        "void attach(int, int, int, int) java.lang.IndexOutOfBoundsException"
                + " java.lang.IllegalArgumentException java.lang.IllegalStateException",
        "void tick()",
    };

    public static void main(String[] args) {
        int kind = BridgeNet.class.getModifiers();
        Check.yes("public", Modifier.isPublic(kind));
        Check.yes("final", Modifier.isFinal(kind));
        Constructor<?>[] constructors = BridgeNet.class.getDeclaredConstructors();
        Check.same("constructors", constructors.length, 1);
        Check.yes("public constructor", Modifier.isPublic(constructors[0].getModifiers()));
        Check.same("its parameters", constructors[0].getParameterCount(), 0);
        for (Field field : BridgeNet.class.getDeclaredFields()) {
            Check.yes("private field " + field, Modifier.isPrivate(field.getModifiers()));
        }
        methods();
        Check.end();
    }

    private static void methods() {
        TreeSet<String> found = new TreeSet<>();
        for (Method method : BridgeNet.class.getDeclaredMethods()) {
            if (Modifier.isPublic(method.getModifiers())) {
                found.add(text(method));
            } else {
                Check.yes("private method " + method, Modifier.isPrivate(method.getModifiers()));
            }
        }
        if (!found.equals(new TreeSet<>(Arrays.asList(FACE)))) {
            Check.report("the public methods are " + found);
        }
    }

    private static String text(Method method) {
        StringBuilder text = new StringBuilder();
        text.append(method.getReturnType().getName()).append(' ').append(method.getName());
        String parameters = Arrays.toString(method.getParameterTypes());
        text.append('(').append(parameters, 1, parameters.length() - 1).append(')');
        for (Class<?> exception : method.getExceptionTypes()) {
            text.append(' ').append(exception.getName());
        }
        return text.toString();
    }
}
