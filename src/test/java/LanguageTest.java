import java.io.IOException;
import java.nio.file.Files;
import java.nio.file.Path;
import java.util.regex.Matcher;
import java.util.regex.Pattern;

/** Those rules of LANGUAGE.md that can be read off the text of the program; it is run from the project's folder. */
public final class LanguageTest {
    private static final String[] RULED_OUT = {
        "\\bpackage\\b", "\\bthrow\\b", "\\bthrows\\b", "\\btry\\b", "\\bcatch\\b", "\\bsynchronized\\b", "\\bassert\\b",
        "->", "::", "\\bstatic\\s*\\{", "\\w+Exact\\b", "\\bprotected\\b", "\\bvar\\b", "\\bnative\\b",
        "\\b(equals|hashCode|toString|getClass)\\b", "\\bInteger\\.(?!bitCount\\b)", "\\bMath\\.(?!min\\b|max\\b)",
        "\\bSystem\\.(?!arraycopy\\b)", "\\bArrays\\.(?!fill\\b|copyOf\\b|copyOfRange\\b)", "\\bjava\\.(?!util\\.Arrays;)",
        "\\b(double|float|Object|Random|Thread|HashMap|Iterator)\\b", "while \\(true\\)", "for \\(;;\\)"};

    private LanguageTest() {
    }

    public static void main(String[] args) throws IOException {
        String whole = Files.readString(Path.of("src/main/java/ParadeRow.java"));
        String code = whole.replaceAll("(?s)/\\*.*?\\*/", "").replaceAll("//[^\n]*", "");
        for (String pattern : RULED_OUT) {
            Matcher matcher = Pattern.compile(pattern).matcher(code);
            Due.same("ruled out is " + pattern, matcher.find() ? matcher.group() : "not there", "not there");
        }
        Due.is("characters 10 and 32 to 126 alone", whole.chars().allMatch(c -> c == 10 || c >= 32 && c <= 126) ? 1 : 0, 1);
        Matcher classes = Pattern.compile("\\b(class|record|enum|interface)\\s+\\w+").matcher(code);
        Due.is("twelve classes at most", classes.results().count() <= 12 ? 1 : 0, 1);
        parameters(code);
        lengths(code);
        Due.end("LanguageTest");
    }

    private static void parameters(String code) {
        Matcher heads = Pattern.compile("\\n    +[\\w \\[\\]]*?(\\w+)\\(([^()]*)\\) \\{").matcher(code);
        int found = 0;
        while (heads.find()) {
            found++;
            Due.is("seven parameters at most has " + heads.group(1), heads.group(2).split(",").length <= 7 ? 1 : 0, 1);
        }
        Due.is("heads of methods are found", found > 60 ? 1 : 0, 1);
    }

    /** A method's end is the first closing brace at its own margin. */
    private static void lengths(String code) {
        String[] lines = code.split("\n");
        for (int i = 0; i < lines.length; i++) {
            Matcher head = Pattern.compile("( {4}| {8})(?! )[\\w \\[\\]]+\\([^()]*\\) \\{").matcher(lines[i]);
            if (head.matches() && !lines[i].trim().matches("(if|for|while|switch)\\b.*")) {
                int end = i;
                while (end < lines.length && !lines[end].equals(head.group(1) + "}")) {
                    end++;
                }
                Due.is("sixty lines at most has " + lines[i].trim(), end - i <= 60 ? 1 : 0, 1);
            }
        }
    }
}
