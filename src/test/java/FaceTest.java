import java.lang.reflect.Constructor;
import java.lang.reflect.Field;
import java.lang.reflect.Method;
import java.lang.reflect.Modifier;
import java.util.Arrays;
import java.util.Set;
import java.util.TreeSet;

/** The public face: just what the document has, and nothing else that is visible. */
final class FaceTest {
    private static final Set<String> FACE = Set.of(
            "boolean feed(int, int, int, int, int)",
            "boolean end(int)",
            "int number(long, boolean) IllegalStateException",
            "int truth(boolean) IllegalStateException",
            "int text() IllegalStateException",
            "int thing(int) IllegalArgumentException IllegalStateException",
            "void clear()",
            "int format()",
            "int join(boolean)",
            "int quote()",
            "boolean parse(int) IllegalArgumentException",
            "long parsed()",
            "int encode(int)",
            "int decode()",
            "int code(int, int) NoSuchElementException",
            "int size()",
            "int byteOf(int) NoSuchElementException");

    public static void main(String[] args) {
        int modifiers = TextForge.class.getModifiers();
        Checks.due("public and final", Modifier.isPublic(modifiers) && Modifier.isFinal(modifiers), true);
        Set<String> face = new TreeSet<>();
        for (Method method : TextForge.class.getDeclaredMethods()) {
            if (!Modifier.isPrivate(method.getModifiers())) {
                face.add(shown(method));
                Checks.due("public: " + method, Modifier.isPublic(method.getModifiers()), true);
            }
        }
        Checks.due("methods", face, new TreeSet<>(FACE));
        for (Field field : TextForge.class.getDeclaredFields()) {
            Checks.due("private: " + field, Modifier.isPrivate(field.getModifiers()), true);
        }
        Constructor<?>[] constructors = TextForge.class.getDeclaredConstructors();
        Checks.due("constructors", Arrays.toString(constructors), "[public TextForge()]");
        Checks.finish("FaceTest");
    }

    private static String shown(Method method) {
        StringBuilder text = new StringBuilder(method.getReturnType().getSimpleName());
        text.append(' ').append(method.getName()).append('(');
        text.append(String.join(", ", Arrays.stream(method.getParameterTypes()).map(Class::getSimpleName).toList()));
        text.append(')');
        for (Class<?> exception : method.getExceptionTypes()) {
            text.append(' ').append(exception.getSimpleName());
        }
        return text.toString();
    }
}
