import java.io.IOException;
import java.lang.reflect.Field;
import java.lang.reflect.Method;
import java.lang.reflect.Modifier;
import java.nio.file.Files;
import java.nio.file.Path;
import java.util.ArrayList;
import java.util.List;
import java.util.Set;
import java.util.TreeSet;
import java.util.regex.Matcher;
import java.util.regex.Pattern;

/**
 * A few rules of LANGUAGE.md that a look at the text or at the class can tell: no words that the
 * rules leave out, each index looked at where it is used, objects made with the object alone, short
 * methods, few classes, fields and parameters, and names that are used once.
 */
public final class LanguageTest {
    private static final Path SOURCE = Path.of("src/main/java/HallStiles.java");
    private static final String[] LEFT_OUT = {"\\bimport\\b", "\\bpackage\\b", "\\bcatch\\b",
        "\\btry\\b", "\\bfinally\\b", "\\bthrow\\b", "\\bthrows\\b", "\\bsynchronized\\b",
        "\\bassert\\b", "\\binstanceof\\b", "->", "::", "\\bSystem\\b", "\\bThread\\b",
        "\\bprotected\\b", "\\bequals\\b", "\\bhashCode\\b", "\\btoString\\b", "\\bvar\\b",
        "\\w+Exact\\b", "\\bstatic \\{", "\\bwhile \\(true\\)", "\\bfor \\(;;\\)",
        "[|&^]="};
    private static final int MOST_LINES = 60;
    private static final int MOST_CLASSES = 12;
    private static final int MOST_FIELDS = 20;
    private static final int MOST_PARAMETERS = 7;

    public static void main(String[] args) throws IOException {
        List<String> lines = Files.readAllLines(SOURCE);
        leftOut(lines);
        indexes(lines);
        objects(lines);
        methodLengths(lines);
        sizes(classes());
        names(classes());
        Checks.end();
    }

    private static boolean isComment(String line) {
        String text = line.trim();
        return text.startsWith("/*") || text.startsWith("*") || text.startsWith("//");
    }

    private static void leftOut(List<String> lines) {
        for (int i = 0; i < lines.size(); i++) {
            for (String word : LEFT_OUT) {
                boolean found = Pattern.compile(word).matcher(lines.get(i)).find();
                Checks.isTrue("line " + (i + 1) + ": " + word, isComment(lines.get(i)) || !found);
            }
        }
    }

    /** In the line of the index or in the one before it, the index is held against the length. */
    private static void indexes(List<String> lines) {
        Pattern index = Pattern.compile("\\w\\[\\w");
        for (int i = 1; i < lines.size(); i++) {
            String line = lines.get(i);
            if (!isComment(line) && !line.contains("new int[") && !line.contains("new State[")
                    && index.matcher(line).find()) {
                Checks.isTrue("line " + (i + 1) + ": an index that nobody looked at",
                        (lines.get(i - 1) + line).contains(".length"));
            }
        }
    }

    private static void objects(List<String> lines) {
        for (int i = 0; i < lines.size(); i++) {
            String line = lines.get(i).trim();
            if (!isComment(line) && line.contains("new ")) {
                Checks.isTrue("line " + (i + 1) + ": an object made by a call",
                        line.startsWith("private final ") || line.equals("ring[i] = new State();"));
            }
        }
    }

    private static void methodLengths(List<String> lines) {
        Pattern head = Pattern.compile("^( ++)(?!for|if|while|switch|\\}).*\\) \\{$");
        for (int i = 0; i < lines.size(); i++) {
            Matcher matcher = head.matcher(lines.get(i));
            if (matcher.matches()) {
                int end = i + 1;
                while (end < lines.size() && !lines.get(end).equals(matcher.group(1) + "}")) {
                    end++;
                }
                Checks.isTrue("line " + (i + 1) + ": a long method", end - i < MOST_LINES);
            }
        }
    }

    private static List<Class<?>> classes() {
        List<Class<?>> all = new ArrayList<>(List.of(HallStiles.class.getDeclaredClasses()));
        all.add(HallStiles.class);
        return all;
    }

    private static void sizes(List<Class<?>> classes) {
        Checks.isTrue(classes.size() + " classes", classes.size() <= MOST_CLASSES);
        for (Class<?> one : classes) {
            int fields = 0;
            for (Field field : one.getDeclaredFields()) {
                if (!Modifier.isStatic(field.getModifiers())) {
                    fields++;
                }
            }
            Checks.isTrue(one + " has " + fields + " fields", fields <= MOST_FIELDS);
            for (Method method : one.getDeclaredMethods()) {
                Checks.isTrue(method + " takes many parameters",
                        method.getParameterCount() <= MOST_PARAMETERS);
            }
        }
    }

    /** No method but those of the face bears the name of one of the face. */
    private static void names(List<Class<?>> classes) {
        Set<String> face = new TreeSet<>();
        for (Method method : HallStiles.class.getMethods()) {
            face.add(method.getName());
        }
        for (Class<?> one : classes) {
            for (Method method : one.getDeclaredMethods()) {
                boolean isFace = one == HallStiles.class
                        && Modifier.isPublic(method.getModifiers());
                Checks.isTrue(method + " bears the name of a public method",
                        isFace || !face.contains(method.getName()));
            }
        }
    }
}
