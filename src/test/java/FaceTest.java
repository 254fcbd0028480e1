import java.lang.reflect.Constructor;
import java.lang.reflect.Field;
import java.lang.reflect.Method;
import java.lang.reflect.Modifier;
import java.util.Arrays;
import java.util.TreeSet;

/**
 * The public face: the document's constructor and methods, and nothing else that is not private;
 * and those of the language's rules on classes that can be seen from without.
 */
public final class FaceTest {
    private static final String[] FACE = {
        "boolean cut(int, int)",
        "boolean link(int, int, int, int)",
        "boolean lose(int, int)",
        "boolean priority(int, int)",
        "boolean set(int, int, int, int)",
        "int deliver(int, int) java.lang.IndexOutOfBoundsException",
        "int learned(int, int, int)",
        "int line(int, int)",
        "int port(int, int)",
        "int send(int, int, int) java.lang.IndexOutOfBoundsException"
                + " java.lang.IllegalStateException java.lang.IllegalArgumentException",
        "long inbox(int, int)",
        "long info(int, int)",
        "long message(int, int, int)",
        "long root(int)",
        "void attach(int, int, int, int) java.lang.IndexOutOfBoundsException"
                + " java.lang.IllegalArgumentException java.lang.IllegalStateException",
        "void tick()",
    };

    public static void main(String[] args) {
        int kind = BridgeNet.class.getModifiers();
        Check.yes("public", Modifier.isPublic(kind));
        Check.yes("final", Modifier.isFinal(kind));
        Constructor<?>[] constructors = BridgeNet.class.getDeclaredConstructors();
        Check.same("constructors", constructors.length, 1);
        Check.yes("public constructor", Modifier.isPublic(constructors[0].getModifiers()));
        Check.same("its parameters", constructors[0].getParameterCount(), 0);
        for (Field field : BridgeNet.class.getDeclaredFields()) {
            Check.yes("private field " + field, Modifier.isPrivate(field.getModifiers()));
        }
        methods();
        Class<?>[] inside = BridgeNet.class.getDeclaredClasses();
        Check.yes("at most twelve classes", inside.length < 12);
        classInside(BridgeNet.class);
        for (Class<?> one : inside) {
            Check.yes("static " + one, Modifier.isStatic(one.getModifiers()));
            Check.no("public " + one, Modifier.isPublic(one.getModifiers()));
            Check.no("protected " + one, Modifier.isProtected(one.getModifiers()));
            classInside(one);
        }
        Check.end();
    }

    private static void classInside(Class<?> one) {
        int fields = 0;
        for (Field field : one.getDeclaredFields()) {
            if (Modifier.isStatic(field.getModifiers())) {
                Check.yes("final " + field, Modifier.isFinal(field.getModifiers()));
            } else {
                fields++;
            }
        }
        Check.yes("at most twenty fields in " + one, fields <= 20);
        for (Method method : one.getDeclaredMethods()) {
            Check.yes("at most seven parameters of " + method, method.getParameterCount() <= 7);
            if (!Modifier.isPublic(method.getModifiers())) {
                Check.no("a public method's name for " + method, isOfTheFace(method.getName()));
            }
        }
    }

    private static boolean isOfTheFace(String name) {
        for (String line : FACE) {
            if (line.contains(" " + name + "(")) {
                return true;
            }
        }
        return false;
    }

    private static void methods() {
        TreeSet<String> found = new TreeSet<>();
        for (Method method : BridgeNet.class.getDeclaredMethods()) {
            if (Modifier.isPublic(method.getModifiers())) {
                found.add(text(method));
            } else {
                Check.yes("private method " + method, Modifier.isPrivate(method.getModifiers()));
            }
        }
        if (!found.equals(new TreeSet<>(Arrays.asList(FACE)))) {
            Check.report("the public methods are " + found);
        }
    }

    private static String text(Method method) {
        StringBuilder text = new StringBuilder();
        text.append(method.getReturnType().getName()).append(' ').append(method.getName());
        String parameters = Arrays.toString(method.getParameterTypes());
        text.append('(').append(parameters, 1, parameters.length() - 1).append(')');
        for (Class<?> exception : method.getExceptionTypes()) {
            text.append(' ').append(exception.getName());
        }
        return text.toString();
    }
}
