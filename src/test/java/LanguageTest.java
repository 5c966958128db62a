import java.io.IOException;
import java.lang.reflect.Field;
import java.lang.reflect.Method;
import java.lang.reflect.Modifier;
import java.nio.file.Files;
import java.nio.file.Path;
import java.util.ArrayList;
import java.util.Arrays;
import java.util.List;
import java.util.Set;
import java.util.regex.Matcher;
import java.util.regex.Pattern;
import java.util.stream.Collectors;
import java.util.stream.Stream;

/** The rules of LANGUAGE.md that can be looked up in the source and in the class itself. */
final class LanguageTest {
    private static final Path MAIN = Path.of("src/main/java");
    private static final Set<String> CONSTANTS = Set.of("int", "long", "boolean", "char", "String");
    private static final Set<String> EXCEPTIONS = Set.of("IllegalStateException", "IllegalArgumentException",
            "IndexOutOfBoundsException", "ArithmeticException", "UnsupportedOperationException",
            "NoSuchElementException", "RuntimeException");

    public static void main(String[] args) throws IOException {
        String code = withoutCommentsAndTexts(Files.readString(MAIN.resolve("TextForge.java")));
        oneFile(code);
        classesInside();
        namesOfMethods();
        staticFields();
        exceptions(code);
        sizes();
        Checks.finish("LanguageTest");
    }

    private static String withoutCommentsAndTexts(String source) {
        return source.replaceAll("(?s)//[^\n]*|/\\*.*?\\*/|\"(\\\\.|[^\"\\\\])*\"|'(\\\\.|[^'\\\\])*'", "");
    }

    private static List<Class<?>> classes() {
        List<Class<?>> all = new ArrayList<>(List.of(TextForge.class));
        for (int i = 0; i < all.size(); i++) {
            all.addAll(Arrays.asList(all.get(i).getDeclaredClasses()));
        }
        return all;
    }

    private static List<String> found(String pattern, String code) {
        Matcher matcher = Pattern.compile(pattern, Pattern.MULTILINE).matcher(code);
        return matcher.results().map(result -> result.group(1)).collect(Collectors.toList());
    }

    private static void oneFile(String code) throws IOException {
        Checks.about("LANGUAGE.md, one file, without a package line");
        try (Stream<Path> files = Files.walk(MAIN)) {
            List<String> names = files.filter(Files::isRegularFile).map(MAIN::relativize).map(Path::toString).toList();
            Checks.due("files", names, List.of("TextForge.java"));
        }
        Checks.due("package lines", found("^\\s*(package)\\b", code), List.of());
        Checks.about("LANGUAGE.md, rule 4: the library");
        Checks.due("imports", found("^import (.*);", code), List.of("java.util.NoSuchElementException"));
        Checks.due("names ending in Exact", found("(\\w+Exact)\\b", code), List.of());
        Checks.due("library by its whole name", found("\\b(javax?\\.(?!util\\.NoSuchElementException;))", code), List.of());
    }

    private static void classesInside() {
        Checks.about("LANGUAGE.md, rules 1 and 2: classes inside");
        for (Class<?> inside : classes()) {
            if (inside != TextForge.class) {
                int modifiers = inside.getModifiers();
                Checks.due(inside + " is static", Modifier.isStatic(modifiers), true);
                Checks.due(inside + " is public or protected", Modifier.isPublic(modifiers) || Modifier.isProtected(modifiers), false);
            }
        }
    }

    private static void namesOfMethods() {
        Checks.about("LANGUAGE.md, rule 1: no private method bears the name of a public one");
        Set<String> face = Arrays.stream(TextForge.class.getMethods()).map(Method::getName).collect(Collectors.toSet());
        for (Class<?> one : classes()) {
            for (Method method : one.getDeclaredMethods()) {
                boolean bears = Modifier.isPrivate(method.getModifiers()) && face.contains(method.getName());
                Checks.due(method.toString(), bears, false);
            }
        }
    }

    private static void staticFields() {
        Checks.about("LANGUAGE.md, rule 5: static fields are final");
        for (Class<?> one : classes()) {
            for (Field field : one.getDeclaredFields()) {
                if (Modifier.isStatic(field.getModifiers())) {
                    Checks.due(field + " is final", Modifier.isFinal(field.getModifiers()), true);
                    Checks.due(field + " is a constant", CONSTANTS.contains(field.getType().getSimpleName()), true);
                }
            }
        }
    }

    private static void exceptions(String code) {
        Checks.about("LANGUAGE.md, rule 6: exceptions");
        List<String> thrown = found("\\bthrow new (\\w+)\\(", code);
        Checks.due("each throw makes a new one", found("\\b(throw)\\b", code).size(), thrown.size());
        Checks.due("throws of other exceptions", thrown.stream().filter(e -> !EXCEPTIONS.contains(e)).toList(), List.of());
        Checks.due("words that have no place", found("\\b(try|catch|finally|synchronized|assert)\\b", code), List.of());
        Checks.about("LANGUAGE.md, rule 2: no lambda, no method reference");
        Checks.due("::", found("(::)", code), List.of());
        Checks.due("-> outside a switch", found("^(?!\\s*(?:case|default)\\b)(.*->.*)$", code), List.of());
    }

    private static void sizes() {
        Checks.about("LANGUAGE.md, rule 11: sizes");
        Checks.due("at most twelve classes", classes().size() <= 12, true);
        for (Class<?> one : classes()) {
            long fields = Arrays.stream(one.getDeclaredFields()).filter(f -> !Modifier.isStatic(f.getModifiers())).count();
            Checks.due("at most twenty fields: " + one, fields <= 20, true);
            for (Method method : one.getDeclaredMethods()) {
                Checks.due("at most seven parameters: " + method, method.getParameterCount() <= 7, true);
            }
        }
    }
}
