import java.lang.reflect.Constructor;
import java.lang.reflect.Field;
import java.lang.reflect.Method;
import java.lang.reflect.Modifier;
import java.util.Arrays;
import java.util.List;
import java.util.Set;
import java.util.TreeSet;

/** The public face: just what the document has, and nothing else that is visible. */
final class FaceTest {
    // In the document's order, so the first one belongs to promise 2: promise 1 is the constructor.
    private static final List<String> FACE = List.of(
            "public boolean feed(int, int, int, int, int)",
            "public boolean end(int)",
            "public int number(long, boolean) IllegalStateException",
            "public int truth(boolean) IllegalStateException",
            "public int text() IllegalStateException",
            "public int thing(int) IllegalArgumentException IllegalStateException",
            "public void clear()",
            "public int format()",
            "public int join(boolean)",
            "public int quote()",
            "public boolean parse(int) IllegalArgumentException",
            "public long parsed()",
            "public int encode(int)",
            "public int decode()",
            "public int code(int, int) NoSuchElementException",
            "public int size()",
            "public int byteOf(int) NoSuchElementException");

    public static void main(String[] args) {
        theClass();
        theConstructor();
        theMethods();
        nothingElse();
        Checks.finish("FaceTest");
    }

    private static void theClass() {
        Checks.about("the public face, public final class TextForge");
        Checks.due("modifiers", Modifier.toString(TextForge.class.getModifiers()), "public final");
        Checks.due("package", TextForge.class.getPackageName(), "");
        Checks.due("class above it", TextForge.class.getSuperclass(), Object.class);
        Checks.due("interfaces", TextForge.class.getInterfaces().length, 0);
    }

    private static void theConstructor() {
        Checks.promise(1, "the public face");
        Constructor<?>[] constructors = TextForge.class.getDeclaredConstructors();
        Checks.due("constructors", Arrays.toString(constructors), "[public TextForge()]");
    }

    private static Set<String> visibleMethods() {
        Set<String> visible = new TreeSet<>();
        for (Method method : TextForge.class.getDeclaredMethods()) {
            if (!Modifier.isPrivate(method.getModifiers())) {
                visible.add(shown(method));
            }
        }
        return visible;
    }

    private static void theMethods() {
        Set<String> visible = visibleMethods();
        for (int i = 0; i < FACE.size(); i++) {
            Checks.promise(i + 2, "the public face");
            Checks.due(FACE.get(i) + " is there", visible.contains(FACE.get(i)), true);
        }
    }

    private static void nothingElse() {
        Checks.about("the public face, no other member that is visible");
        Set<String> others = visibleMethods();
        others.removeAll(FACE);
        Checks.due("methods", others, Set.of());
        for (Field field : TextForge.class.getDeclaredFields()) {
            Checks.due("private: " + field, Modifier.isPrivate(field.getModifiers()), true);
        }
        Checks.due("public classes inside", TextForge.class.getClasses().length, 0);
    }

    private static String shown(Method method) {
        StringBuilder text = new StringBuilder(Modifier.toString(method.getModifiers()));
        text.append(' ').append(method.getReturnType().getSimpleName());
        text.append(' ').append(method.getName()).append('(');
        text.append(String.join(", ", Arrays.stream(method.getParameterTypes()).map(Class::getSimpleName).toList()));
        text.append(')');
        for (Class<?> exception : method.getExceptionTypes()) {
            text.append(' ').append(exception.getSimpleName());
        }
        return text.toString();
    }
}
