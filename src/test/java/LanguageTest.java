import java.io.IOException;
import java.nio.file.Files;
import java.nio.file.Path;
import java.util.List;
import java.util.regex.Matcher;
import java.util.regex.Pattern;

/** The rules of LANGUAGE.md that the text of the class shows. Its argument is that file. */
public final class LanguageTest {
    /** Each with the number of the rule that rules it out. */
    private static final String[][] RULED_OUT = {
        {"no package line", "\\bpackage\\b"},
        {"2: no lambda, no method reference", "->|::"},
        {"3: no other numbers than these", "\\b(Long|Object|Double|Boolean|BigInteger)\\b"},
        {"4: no library but what it lists", "\\bimport\\b|\\bSystem\\b|\\bjava\\."},
        {"4: none whose name ends in Exact", "Exact\\b"},
        {"6: no try", "\\b(try|catch|finally)\\b"},
        {"6: none of these", "\\b(synchronized|assert)\\b"},
        {"6: no equals, hashCode or toString", "\\b(equals|hashCode|toString)\\b"},
        {"6: throws what it makes, with a written text or none",
            "\\bthrow\\b(?! new (IndexOutOfBounds|IllegalArgument|IllegalState)Exception\\((\"[^\"]*\")?\\);)"},
        {"10: no texts joined by +", "\" *\\+|\\+ *\""},
        {"11: at most seven parameters", "\\([^()]*(,[^()]*){7}\\)"},
        {"signs 1 to 127", "[^\\x01-\\x7f]"},
    };
    private static final int LONGEST_METHOD = 60;

    public static void main(String[] args) throws IOException {
        Path file = Path.of(args.length > 0 ? args[0] : "src/main/java/MatrixHouse.java");
        String code = withoutComments(Files.readString(file));
        for (String[] rule : RULED_OUT) {
            Matcher found = Pattern.compile(rule[1]).matcher(code);
            Due.compare("rule " + rule[0], "nothing", found.find() ? "'" + found.group() + "'" : "nothing");
        }
        Matcher statics = Pattern.compile("\\bstatic (?!final |[\\w\\[\\]]+ \\w+\\()[^;{]*;").matcher(code);
        Due.compare("rule 5: static fields are final", "nothing", statics.find() ? statics.group() : "nothing");
        methodLengths(Files.readAllLines(file));
        Due.end("LanguageTest");
    }

    private static String withoutComments(String text) {
        return text.replaceAll("(?s)/\\*.*?\\*/", "").replaceAll("//[^\n]*", "");
    }

    private static void methodLengths(List<String> lines) {
        int start = -1;
        int longest = 0;
        for (int i = 0; i < lines.size(); i++) {
            String line = lines.get(i);
            boolean isHead = line.matches("( {4}| {8})(?! )[^=;]*\\(.*") && !line.contains(" class ");
            start = isHead ? i : start;
            if (start >= 0 && line.matches("( {4}| {8})\\}")) {
                longest = Math.max(longest, i - start);
            }
        }
        Due.holds("rule 11: methods have some sixty lines, the longest has " + longest,
                longest > 10 && longest <= LONGEST_METHOD);
    }
}
