import java.io.IOException;
import java.lang.reflect.Method;
import java.lang.reflect.Modifier;
import java.nio.file.Files;
import java.nio.file.Path;
import java.util.List;
import java.util.regex.Matcher;
import java.util.regex.Pattern;
import java.util.stream.Stream;

/** What README.md says of the class is so: its calls' answers; and it leaves nothing out. */
public final class ReadmeTest {
    private static final Pattern CALL = Pattern.compile("x\\.(\\w+)\\((.*?)\\); +// ([^:]+):.*");

    public static void main(String[] args) throws IOException, ReflectiveOperationException {
        List<String> lines = Files.readAllLines(Path.of("README.md"));
        answers(lines);
        everyCall(String.join("\n", lines));
        everyTest(lines);
        Checks.end();
    }

    private static void answers(List<String> lines) throws ReflectiveOperationException {
        HallStiles x = new HallStiles();
        int calls = 0;
        for (String line : lines) {
            Matcher matcher = CALL.matcher(line);
            if (matcher.matches()) {
                Checks.dueDouble(line, answer(x, matcher.group(1), matcher.group(2)),
                        number(matcher.group(3)));
                calls++;
            } else {
                Checks.isTrue("a call without an answer: " + line, !line.startsWith("x."));
            }
        }
        Checks.isTrue("calls in README.md: " + calls, calls >= 20);
    }

    private static double answer(HallStiles x, String name, String words)
            throws ReflectiveOperationException {
        String[] parts = words.isEmpty() ? new String[0] : words.split(", ");
        Object[] arguments = new Object[parts.length];
        for (int i = 0; i < parts.length; i++) {
            arguments[i] = argument(parts[i]);
        }
        return ((Number) named(name).invoke(x, arguments)).doubleValue();
    }

    private static Object argument(String word) {
        if (word.equals("true") || word.equals("false")) {
            return word.equals("true");
        }
        return word.startsWith("'") ? word.charAt(1) : Integer.parseInt(word);
    }

    private static Method named(String name) throws NoSuchMethodException {
        for (Method method : HallStiles.class.getDeclaredMethods()) {
            if (method.getName().equals(name) && Modifier.isPublic(method.getModifiers())) {
                return method;
            }
        }
        throw new NoSuchMethodException(name);
    }

    /** A number, or the name of a constant of the class. */
    private static double number(String word) throws ReflectiveOperationException {
        if (Character.isUpperCase(word.charAt(0))) {
            return HallStiles.class.getField(word).getInt(null);
        }
        return Double.parseDouble(word);
    }

    private static void everyCall(String text) {
        for (Method method : HallStiles.class.getDeclaredMethods()) {
            if (Modifier.isPublic(method.getModifiers())) {
                Checks.isTrue("README.md does not name " + method.getName(),
                        text.contains("`" + method.getName() + "`"));
            }
        }
    }

    private static void everyTest(List<String> lines) throws IOException {
        try (Stream<Path> files = Files.list(Path.of("src/test/java"))) {
            for (Path file : (Iterable<Path>) files::iterator) {
                String name = file.getFileName().toString().replace(".java", "");
                if (name.endsWith("Test")) {
                    Checks.isTrue("README.md does not name " + name,
                            lines.stream().anyMatch(line -> line.startsWith("| " + name + " |")));
                }
            }
        }
    }
}
