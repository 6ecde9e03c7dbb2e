import java.nio.file.Files;
import java.nio.file.Path;
import java.util.List;
import java.util.regex.Matcher;
import java.util.regex.Pattern;

/** The class's text keeps those rules of LANGUAGE.md that a text shows without being parsed. */
public final class LanguageTest {
    private static final Path FILE = Path.of("src/main/java/DesertChannels.java");
    private static final int LONGEST = 60;
    /** Each is outside the rule whose number stands ahead of it. */
    private static final String[] OUTSIDE = {
        "1 ^package ", "2 ->", "2 ::", "2 \\bvar\\b", "3 \\bObject\\b", "3 \\b(NaN|Double|Float|Boolean|Character)\\b",
        "4 \\w+Exact\\b", "4 \\bSystem\\.(?!arraycopy)", "4 \\bjava\\.(?!util\\.NoSuchElementException;)",
        "5 static \\{", "6 \\bfinally\\b", "6 \\b(synchronized|assert|volatile|transient|native)\\b", "6 extends \\w*Exception",
        "6 \\b(equals|hashCode|toString|getMessage)\\b",
        "7 catch \\(\\w*(Bounds|NullPointer|Arithmetic|ClassCast|ArraySize|ArrayStore|Runtime)Exception",
        "7 catch \\((Exception|Throwable|Error)", "9 while \\(true\\)", "9 for \\(;;\\)",
        "13 \\b(Thread|Random|random|currentTimeMillis|nanoTime|File|Runtime)\\b"
    };
    private static final String THROWN = "throw new (IllegalState|IllegalArgument|IndexOutOfBounds|"
            + "UnsupportedOperation|NoSuchElement)Exception\\(\"[^\"]*\"\\);";

    private LanguageTest() {
    }

    public static void main(String[] args) throws Exception {
        List<String> lines = Files.readAllLines(FILE);
        String text = withoutComments(String.join("\n", lines));
        for (String rule : OUTSIDE) {
            String sought = rule.substring(rule.indexOf(' ') + 1);
            Matcher m = Pattern.compile(sought, Pattern.MULTILINE).matcher(text);
            Check.same("rule " + rule, m.find() ? m.group() : "none", "none");
        }
        Check.same("rule 1: one public class", many(text, "(?m)^public final class DesertChannels \\{"), 1);
        Check.same("rule 1: and no other file-wide one", many(text, "(?m)^[a-z].*\\b(class|interface|enum|record)\\b"), 1);
        Check.same("rule 4: one import", many(text, "(?m)^import "), 1);
        Check.same("rule 6: all throws are written so", many(text, "\\bthrow\\b"), many(text, THROWN));
        for (int i = 0; i < text.length(); i++) {
            if (text.charAt(i) > 126 || text.charAt(i) < 32 && text.charAt(i) != '\n') {
                Check.same("rule 4: sign at " + i, text.charAt(i), ' ');
            }
        }
        methodsAreShort(lines);
        Check.finish("LanguageTest");
    }

    private static String withoutComments(String text) {
        return text.replaceAll("(?s)/\\*.*?\\*/", " ").replaceAll("//[^\n]*", " ");
    }

    private static int many(String text, String sought) {
        Matcher m = Pattern.compile(sought).matcher(text);
        int found = 0;
        while (m.find()) {
            found++;
        }
        return found;
    }

    /** A method ends where a brace stands alone, as far in as the line on which it began. */
    private static void methodsAreShort(List<String> lines) {
        int methods = 0;
        for (int i = 0; i < lines.size(); i++) {
            String line = lines.get(i);
            String indent = line.substring(0, line.length() - line.stripLeading().length());
            boolean isInClass = indent.length() == 4 || indent.length() == 8;
            if (isInClass && line.matches(" +(public |private |static |boolean |int |void |[A-Z]\\w* )+\\w+\\(.*")) {
                int end = i;
                while (end < lines.size() && !lines.get(end).equals(indent + "}")) {
                    end++;
                }
                methods++;
                Check.same("rule 11: " + line.strip() + " is short", end - i + 1 <= LONGEST, true);
            }
        }
        Check.same("methods are seen", methods >= 25, true);
    }
}
