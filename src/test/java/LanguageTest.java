import java.io.IOException;
import java.nio.file.Files;
import java.nio.file.Path;
import java.util.List;
import java.util.regex.Matcher;
import java.util.regex.Pattern;

/**
 * A few rules of LANGUAGE.md that a look at the text can tell: no words that the rules leave out,
 * each index looked at where it is used, objects made with the object alone, short methods.
 */
public final class LanguageTest {
    private static final Path SOURCE = Path.of("src/main/java/HallStiles.java");
    private static final String[] LEFT_OUT = {"\\bimport\\b", "\\bpackage\\b", "\\bcatch\\b",
        "\\btry\\b", "\\bfinally\\b", "\\bthrow\\b", "\\bthrows\\b", "\\bsynchronized\\b",
        "\\bassert\\b", "\\binstanceof\\b", "->", "::", "\\bSystem\\b", "\\bThread\\b",
        "\\bprotected\\b", "\\bequals\\b", "\\bhashCode\\b", "\\btoString\\b", "\\bvar\\b",
        "\\w+Exact\\b", "\\bstatic \\{", "\\bwhile \\(true\\)", "\\bfor \\(;;\\)",
        "[|&^]="};
    private static final int MOST_LINES = 60;

    public static void main(String[] args) throws IOException {
        List<String> lines = Files.readAllLines(SOURCE);
        leftOut(lines);
        indexes(lines);
        objects(lines);
        methodLengths(lines);
        Checks.end();
    }

    private static boolean isComment(String line) {
        String text = line.trim();
        return text.startsWith("/*") || text.startsWith("*") || text.startsWith("//");
    }

    private static void leftOut(List<String> lines) {
        for (int i = 0; i < lines.size(); i++) {
            for (String word : LEFT_OUT) {
                boolean found = Pattern.compile(word).matcher(lines.get(i)).find();
                Checks.isTrue("line " + (i + 1) + ": " + word, isComment(lines.get(i)) || !found);
            }
        }
    }

    /** In the line of the index or in the one before it, the index is held against the length. */
    private static void indexes(List<String> lines) {
        Pattern index = Pattern.compile("\\w\\[\\w");
        for (int i = 1; i < lines.size(); i++) {
            String line = lines.get(i);
            if (!isComment(line) && !line.contains("new int[") && !line.contains("new State[")
                    && index.matcher(line).find()) {
                Checks.isTrue("line " + (i + 1) + ": an index that nobody looked at",
                        (lines.get(i - 1) + line).contains(".length"));
            }
        }
    }

    private static void objects(List<String> lines) {
        for (int i = 0; i < lines.size(); i++) {
            String line = lines.get(i).trim();
            if (!isComment(line) && line.contains("new ")) {
                Checks.isTrue("line " + (i + 1) + ": an object made by a call",
                        line.startsWith("private final ") || line.equals("ring[i] = new State();"));
            }
        }
    }

    private static void methodLengths(List<String> lines) {
        Pattern head = Pattern.compile("^( ++)(?!for|if|while|switch|\\}).*\\) \\{$");
        for (int i = 0; i < lines.size(); i++) {
            Matcher matcher = head.matcher(lines.get(i));
            if (matcher.matches()) {
                int end = i + 1;
                while (end < lines.size() && !lines.get(end).equals(matcher.group(1) + "}")) {
                    end++;
                }
                Checks.isTrue("line " + (i + 1) + ": a long method", end - i < MOST_LINES);
            }
        }
    }
}
