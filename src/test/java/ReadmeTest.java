import java.io.IOException;
import java.nio.file.DirectoryStream;
import java.nio.file.Files;
import java.nio.file.Path;
import java.util.Set;
import java.util.TreeSet;
import java.util.regex.Matcher;
import java.util.regex.Pattern;

/** README.md: its example's calls answer what it says, and its table names every test; run from the project's folder. */
public final class ReadmeTest {
    private static final Path README = Path.of("README.md");
    private static final Path TESTS = Path.of("src/test/java");
    private static final String MADE = "ParadeRow x = new ParadeRow();";
    private static final Pattern TOLD = Pattern.compile("tell\\(x, \"([^\"]*)\"\\); +// (-?\\d+)\\b.*");
    private static final Pattern ASKED = Pattern.compile("x\\.(\\w+)\\(([^()]*)\\); +// (-?\\w+)\\b.*");
    private static final int LEAST_CALLS = 40;

    private ReadmeTest() {
    }

    public static void main(String[] args) throws IOException {
        String readme = Files.readString(README);
        example(readme);
        table(readme);
        Due.is("README.md names .ci/run", readme.contains("\n    .ci/run\n") ? 1 : 0, 1);
        Due.end("ReadmeTest");
    }

    /** The example's own method: the text of it in README.md is the text that stands here. */
    static int tell(ParadeRow x, String text) {
        for (int i = 0; i < text.length(); i++) {
            x.feed(text.charAt(i));
        }
        return x.place();
    }

    private static String plain(String text) {
        return text.replaceAll("\\s+", " ").trim();
    }

    private static void example(String readme) throws IOException {
        String source = plain(Files.readString(TESTS.resolve("ReadmeTest.java")));
        Matcher blocks = Pattern.compile("(?s)```java\\n(.*?)```").matcher(readme);
        ParadeRow x = null;
        int calls = 0;
        while (blocks.find()) {
            if (blocks.group(1).startsWith("static int tell(")) {
                Due.is("tell() of README.md stands here", source.contains(plain(blocks.group(1))) ? 1 : 0, 1);
                continue;
            }
            for (String line : blocks.group(1).split("\n")) {
                if (line.equals(MADE)) {
                    x = new ParadeRow();
                } else {
                    calls += call(x, line);
                }
            }
        }
        Due.is("calls of the example, at least " + LEAST_CALLS, calls >= LEAST_CALLS ? 1 : 0, 1);
    }

    /** How many calls with an answer the line has: 1, or it is told as wrong. */
    private static int call(ParadeRow x, String line) {
        Matcher told = TOLD.matcher(line);
        Matcher asked = ASKED.matcher(line);
        if (x != null && told.matches()) {
            Due.is(line, tell(x, told.group(1)), Integer.parseInt(told.group(2)));
            return 1;
        }
        if (x != null && asked.matches()) {
            Script.run(x, asked.group(1) + "(" + numbers(asked.group(2)) + ")=" + asked.group(3));
            return 1;
        }
        Due.same("a line of the example", line, "a call with its answer");
        return 0;
    }

    private static String numbers(String words) {
        StringBuilder line = new StringBuilder();
        for (String word : words.split(", *")) {
            boolean bits = word.startsWith("0b");
            line.append(line.length() > 0 ? "," : "");
            line.append(bits ? String.valueOf(Integer.parseInt(word.substring(2), 2)) : word.replace("ParadeRow.", ""));
        }
        return line.toString();
    }

    private static void table(String readme) throws IOException {
        Set<String> named = new TreeSet<>();
        Matcher names = Pattern.compile("`(\\w+Test)`").matcher(readme);
        while (names.find()) {
            named.add(names.group(1));
        }
        Set<String> there = new TreeSet<>();
        try (DirectoryStream<Path> files = Files.newDirectoryStream(TESTS, "*Test.java")) {
            for (Path file : files) {
                there.add(file.getFileName().toString().replace(".java", ""));
            }
        }
        Due.same("tests that README.md names", named, there);
    }
}
