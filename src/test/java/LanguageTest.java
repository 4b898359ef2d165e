import java.io.IOException;
import java.lang.reflect.Field;
import java.lang.reflect.Modifier;
import java.nio.file.Files;
import java.nio.file.Path;
import java.util.Map;
import java.util.Set;
import java.util.TreeMap;
import java.util.TreeSet;
import java.util.regex.Matcher;
import java.util.regex.Pattern;

/** Those rules of LANGUAGE.md that can be read off the text of the program; it is run from the project's folder. */
public final class LanguageTest {
    private static final String[] RULED_OUT = {
        "\\bpackage\\b", "\\bthrow\\b", "\\bthrows\\b", "\\btry\\b", "\\bcatch\\b", "\\bsynchronized\\b", "\\bassert\\b",
        "->", "::", "\\bstatic\\s*\\{", "\\w+Exact\\b", "\\bprotected\\b", "\\bvar\\b", "\\bnative\\b",
        "\\b(equals|hashCode|toString|getClass)\\b", "\\bInteger\\.(?!bitCount\\b)", "\\bMath\\.(?!min\\b|max\\b)",
        "\\bSystem\\.(?!arraycopy\\b)", "\\bArrays\\.(?!fill\\b|copyOf\\b|copyOfRange\\b)", "\\bjava\\.(?!util\\.Arrays;)",
        "\\b(double|float|Object|Random|Thread|HashMap|Iterator)\\b", "while \\(true\\)", "for \\(;;\\)",
        "\\bcase \\w+ \\w+", "\" *\\+", "\\+ *\"", "\\+= *\"", "\\((int|long|short|byte|char|[A-Z]\\w*)\\) *[\\w(]", "\\[\\]\\[\\]\\[\\]",
        "\\bextends\\b", "\\btransient\\b", "\\bvolatile\\b"};
    private static final Set<Class<?>> CONSTANTS = Set.of(int.class, long.class, boolean.class, char.class, String.class);
    private static final int MOST_FIELDS = 20;
    private static final int MOST_DEEP = 8;

    private LanguageTest() {
    }

    public static void main(String[] args) throws IOException {
        String whole = Files.readString(Path.of("src/main/java/ParadeRow.java"));
        String code = whole.replaceAll("(?s)/\\*.*?\\*/", "").replaceAll("//[^\n]*", "");
        for (String pattern : RULED_OUT) {
            Matcher matcher = Pattern.compile(pattern).matcher(code);
            Due.same("ruled out is " + pattern, matcher.find() ? matcher.group() : "not there", "not there");
        }
        Due.is("characters 10 and 32 to 126 alone", whole.chars().allMatch(c -> c == 10 || c >= 32 && c <= 126) ? 1 : 0, 1);
        Matcher classes = Pattern.compile("\\b(class|record|enum|interface)\\s+\\w+").matcher(code);
        Due.is("twelve classes at most", classes.results().count() <= 12 ? 1 : 0, 1);
        parameters(code);
        lengths(code);
        depths(code);
        fields(ParadeRow.class);
        for (Class<?> inside : ParadeRow.class.getDeclaredClasses()) {
            fields(inside);
        }
        Due.end("LanguageTest");
    }

    private static void parameters(String code) {
        Matcher heads = Pattern.compile("\\n    +[\\w \\[\\]]*?(\\w+)\\(([^()]*)\\) \\{").matcher(code);
        int found = 0;
        while (heads.find()) {
            found++;
            Due.is("seven parameters at most has " + heads.group(1), heads.group(2).split(",").length <= 7 ? 1 : 0, 1);
        }
        Due.is("heads of methods are found", found > 60 ? 1 : 0, 1);
    }

    /** A method's end is the first closing brace at its own margin. */
    private static void lengths(String code) {
        String[] lines = code.split("\n");
        for (int i = 0; i < lines.length; i++) {
            Matcher head = Pattern.compile("( {4}| {8})(?! )[\\w \\[\\]]+\\([^()]*\\) \\{").matcher(lines[i]);
            if (head.matches() && !lines[i].trim().matches("(if|for|while|switch)\\b.*")) {
                int end = i;
                while (end < lines.length && !lines[end].equals(head.group(1) + "}")) {
                    end++;
                }
                Due.is("sixty lines at most has " + lines[i].trim(), end - i <= 60 ? 1 : 0, 1);
            }
        }
    }

    /** Static fields are constants; of others a class has some twenty at most. */
    private static void fields(Class<?> type) {
        int count = 0;
        for (Field field : type.getDeclaredFields()) {
            if (Modifier.isStatic(field.getModifiers())) {
                boolean constant = Modifier.isFinal(field.getModifiers()) && CONSTANTS.contains(field.getType());
                Due.is("a constant is " + field, constant ? 1 : 0, 1);
            } else {
                count++;
            }
        }
        Due.is("twenty fields at most has " + type, count <= MOST_FIELDS ? 1 : 0, 1);
    }

    /** Methods of one name are taken for one: so no way is missed, and there is none that leads back. */
    private static void depths(String code) {
        Map<String, Set<String>> called = new TreeMap<>();
        Matcher methods = Pattern.compile("(?s)\\n( {4}| {8})(?! )[\\w \\[\\]]*?(\\w+)\\([^()]*\\) \\{\\n(.*?)\\n\\1\\}").matcher(code);
        while (methods.find()) {
            Set<String> names = called.computeIfAbsent(methods.group(2), name -> new TreeSet<>());
            Matcher calls = Pattern.compile("(\\w+)\\(").matcher(methods.group(3));
            while (calls.find()) {
                names.add(calls.group(1));
            }
        }
        Due.is("methods are found", called.size() > 100 ? 1 : 0, 1);
        for (String name : called.keySet()) {
            Due.is("eight deep at most goes " + name, depth(called, name, MOST_DEEP) <= MOST_DEEP ? 1 : 0, 1);
        }
    }

    /** Looks no deeper than one more than may be, so that it ends where methods call one another. */
    private static int depth(Map<String, Set<String>> called, String name, int rest) {
        int deepest = 0;
        if (rest > 0) {
            for (String next : called.get(name)) {
                if (called.containsKey(next)) {
                    deepest = Math.max(deepest, depth(called, next, rest - 1));
                }
            }
        }
        return deepest + 1;
    }
}
