import java.io.IOException;
import java.nio.file.Files;
import java.nio.file.Path;
import java.util.List;
import java.util.regex.Matcher;
import java.util.regex.Pattern;

/** What can be seen of ../shared/LANGUAGE.md from the text of the program. */
public final class LanguageTest {

    private static final String SOURCE = "src/main/java/Latticework.java";
    // with the number of the rule that rules it out
    private static final String[][] RULED_OUT = {
        {"3", "\\bvar\\b"}, {"4", "\\bString\\.format\\b"}, {"4", "\\bSystem\\.(?!arraycopy\\b)"},
        {"4", "\\w+Exact\\("}, {"4", "\\bMath\\.(?!(abs|max|min|floorDiv|floorMod)\\()"},
        {"2", "->"}, {"2", "::"},
        {"5", "\\bstatic\\s*\\{"}, {"6", "\\bfinally\\b"}, {"6", "\\bassert\\b"}, {"6", "\\bsynchronized\\b"},
        {"6", "\\b(try|catch)\\b"}, {"6", "\\bextends\\s+\\w*Exception\\b"},
        {"6", "\\b(equals|hashCode|toString)\\s*\\("}, {"13", "\\b(Random|Thread|File|currentTimeMillis|nanoTime)\\b"},
    };

    public static void main(String[] args) throws IOException {
        List<String> lines = Files.readAllLines(Path.of(SOURCE));
        int wrong = 0;
        int classes = 0;
        for (int i = 0; i < lines.size(); i++) {
            String code = lines.get(i).replaceFirst("^\\s*(//|/?\\*).*", "").replaceAll("\"[^\"]*\"", "\"\"");
            for (String[] rule : RULED_OUT) {
                Matcher found = Pattern.compile(rule[1]).matcher(code);
                if (found.find()) {
                    System.out.println("LANGUAGE.md rule " + rule[0] + ", line " + (i + 1) + ": " + found.group());
                    wrong++;
                }
            }
            if (code.startsWith("import ")
                    && !code.matches("import java\\.util\\.(Arrays|ArrayList|List|Iterator);")) {
                System.out.println("LANGUAGE.md rule 4, line " + (i + 1) + ": " + code);
                wrong++;
            }
            if (code.matches(".*\\bthrow\\b.*") && !code.matches("\\s*throw new (IllegalStateException|"
                    + "IllegalArgumentException|IndexOutOfBoundsException)\\(\"\"\\);")) {
                System.out.println("LANGUAGE.md rule 6, line " + (i + 1) + ": " + code.trim());
                wrong++;
            }
            classes += code.matches(".*\\bclass \\w+.*") ? 1 : 0;
        }
        if (wrong > 0 || classes > 12) {
            System.out.println("LanguageTest: " + wrong + " lines against the rules, " + classes + " classes");
            System.exit(1);
        }
    }
}
