import java.io.IOException;
import java.lang.reflect.InvocationTargetException;
import java.lang.reflect.Method;
import java.nio.file.Files;
import java.nio.file.Path;
import java.util.List;
import java.util.Set;
import java.util.TreeSet;
import java.util.regex.Matcher;
import java.util.regex.Pattern;
import java.util.stream.Collectors;
import java.util.stream.Stream;

/**
 * README.md: it is there, says how to use the class and how to run the tests, and what it tells of
 * answers is so. Its example is read line by line and its calls are made.
 */
final class ReadmeTest {
    private static final Path README = Path.of("README.md");
    private static final String MAKING = "TextForge forge = new TextForge();";
    private static final Pattern CALL = Pattern.compile("forge\\.(\\w+)\\(([^)]*)\\);(?:\\s*// (.*))?");
    private static final Pattern ANSWER = Pattern.compile("(throws \\w+|\\S+?)(?:: (.*))?");
    private static final Pattern ROW = Pattern.compile("\\| `(%[^`]*)` \\| (.*) \\| `([^`]*)` \\|");
    private static final Pattern ARGUMENT = Pattern.compile("`(number|truth|thing)\\(([^)]*)\\)`|the text `([^`]*)`|none");
    private static final Pattern TEST = Pattern.compile("`(\\w+Test)`");
    // The promises' own calls, so that an example with fewer of them is noticed.
    private static final Set<String> CALLS_OF_THE_EXAMPLE = Set.of("feed", "end", "number", "truth", "text", "thing",
            "format", "join", "quote", "parse", "parsed", "encode", "decode", "code", "size", "byteOf");

    public static void main(String[] args) throws IOException {
        Checks.about("README.md, that it is there");
        Checks.due("a file", Files.isRegularFile(README), true);
        String readme = Files.readString(README);
        usingIt(readme);
        tableOfLetters(readme);
        runningTheTests(readme);
        Checks.finish("ReadmeTest");
    }

    /** The lines of the first block of code in a language. */
    private static List<String> block(String readme, String language) {
        Matcher matcher = Pattern.compile("(?s)```" + language + "\n(.*?)```").matcher(readme);
        return matcher.find() ? matcher.group(1).lines().toList() : List.of();
    }

    private static void usingIt(String readme) {
        Checks.about("README.md, how to use the class");
        Checks.due("a heading", readme.contains("\n## Using it\n"), true);
        List<String> lines = block(readme, "java").stream()
                .filter(line -> !line.isBlank() && !line.startsWith("//")).toList();
        Checks.due("the example begins with", lines.isEmpty() ? "nothing" : lines.get(0), MAKING);
        List<String> calls = lines.isEmpty() ? lines : lines.subList(1, lines.size());
        TextForge forge = new TextForge();
        Set<String> made = new TreeSet<>();
        for (int i = 0; i < calls.size(); i++) {
            Matcher call = CALL.matcher(calls.get(i));
            Checks.due("a call of the class: " + calls.get(i), call.matches(), true);
            Object answer = answerOf(forge, call.group(1), call.group(2));
            made.add(call.group(1));
            dueAsTold(calls.subList(0, i + 1), answer, call.group(3), forge);
        }
        Checks.due("the calls of the example", made, new TreeSet<>(CALLS_OF_THE_EXAMPLE));
    }

    private static void dueAsTold(List<String> calls, Object answer, String told, TextForge forge) {
        String line = calls.get(calls.size() - 1);
        Matcher matcher = ANSWER.matcher(told == null ? "" : told);
        Checks.due("an answer is told: " + line, matcher.matches(), true);
        Checks.due(line, String.valueOf(answer), matcher.group(1));
        String words = matcher.group(2) == null ? "" : matcher.group(2);
        if (words.startsWith("the result is ")) {
            Checks.dueResult(line, forge, words.substring("the result is ".length()));
        }
        if (words.startsWith("the text is ")) {
            Checks.dueResult(line, withTextAsResult(calls), words.substring("the text is ".length()));
        }
    }

    /** The same calls on another object, whose text that is fed becomes its result then. */
    private static TextForge withTextAsResult(List<String> calls) {
        TextForge forge = new TextForge();
        for (String line : calls) {
            Matcher call = CALL.matcher(line);
            if (call.matches()) {
                answerOf(forge, call.group(1), call.group(2));
            }
        }
        forge.clear();
        forge.text();
        forge.join(false);
        return forge;
    }

    /** Makes a call of the face by its name: the answer, or "throws" and the exception's name. */
    private static Object answerOf(TextForge forge, String name, String written) {
        String[] arguments = written.isEmpty() ? new String[0] : written.split(", ");
        for (Method method : TextForge.class.getMethods()) {
            if (method.getName().equals(name) && method.getParameterCount() == arguments.length) {
                return answerOf(forge, method, arguments);
            }
        }
        return "no such call";
    }

    private static Object answerOf(TextForge forge, Method method, String[] arguments) {
        Object[] values = new Object[arguments.length];
        for (int i = 0; i < values.length; i++) {
            values[i] = value(method.getParameterTypes()[i], arguments[i]);
        }
        try {
            return method.invoke(forge, values);
        } catch (InvocationTargetException e) {
            return "throws " + e.getCause().getClass().getSimpleName();
        } catch (IllegalAccessException e) {
            return e.toString();
        }
    }

    private static Object value(Class<?> type, String written) {
        if (type == boolean.class) {
            Checks.due("true or false: " + written, written.equals("true") || written.equals("false"), true);
            return Boolean.valueOf(written);
        }
        boolean isHex = written.startsWith("0x");
        if (type == int.class) {
            return isHex ? Integer.parseUnsignedInt(written.substring(2), 16) : Integer.parseInt(written);
        }
        return isHex ? Long.parseUnsignedLong(written.substring(2), 16) : Long.parseLong(written);
    }

    private static void tableOfLetters(String readme) {
        Checks.about("README.md, the table of letters");
        StringBuilder letters = new StringBuilder();
        for (String line : readme.lines().toList()) {
            Matcher row = ROW.matcher(line);
            if (row.matches()) {
                TextForge forge = new TextForge();
                give(forge, row.group(2));
                Checks.fed(forge, row.group(1)).format();
                Checks.dueResult(line, forge, row.group(3));
                letters.append(row.group(1).charAt(row.group(1).length() - 1));
            }
        }
        for (char letter : "dxXbocsqtv%".toCharArray()) {
            Checks.due("a row for " + letter, letters.indexOf(String.valueOf(letter)) >= 0, true);
        }
    }

    private static void give(TextForge forge, String written) {
        Matcher argument = ARGUMENT.matcher(written);
        Checks.due("an argument: " + written, argument.matches(), true);
        if (argument.group(1) != null) {
            Checks.due(written, answerOf(forge, argument.group(1), argument.group(2)), 1);
        } else if (argument.group(3) != null) {
            Checks.due(written, Checks.fed(forge, argument.group(3)).text(), 1);
        }
    }

    private static void runningTheTests(String readme) throws IOException {
        Checks.about("README.md, how to run the tests");
        Checks.due("a heading", readme.contains("\n## Running the tests\n"), true);
        Checks.due("the command", block(readme, "sh"), List.of(".ci/run"));
        Checks.due("the command can be run", Files.isExecutable(Path.of(".ci/run")), true);
        Set<String> told = new TreeSet<>();
        Matcher matcher = TEST.matcher(readme);
        while (matcher.find()) {
            told.add(matcher.group(1));
        }
        Checks.due("the tests that it names", told, testsThatAreThere());
    }

    private static Set<String> testsThatAreThere() throws IOException {
        try (Stream<Path> files = Files.list(Path.of("src/test/java"))) {
            return files.map(file -> file.getFileName().toString())
                    .filter(name -> name.endsWith("Test.java"))
                    .map(name -> name.substring(0, name.length() - ".java".length()))
                    .collect(Collectors.toCollection(TreeSet::new));
        }
    }
}
