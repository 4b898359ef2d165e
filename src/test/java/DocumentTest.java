import java.io.IOException;
import java.lang.reflect.Method;
import java.nio.file.DirectoryStream;
import java.nio.file.Files;
import java.nio.file.Path;
import java.util.ArrayList;
import java.util.Arrays;
import java.util.List;
import java.util.regex.MatchResult;
import java.util.regex.Matcher;
import java.util.regex.Pattern;

/**
 * The document beside the class and its tests: the face is the document's, each promise is one of the calls, and each
 * word of the Terms and of the promises stands in a sentence that a test quotes. It is run from the project's folder.
 */
public final class DocumentTest {
    private static final Path DOCUMENT = Path.of("../shared/DOC.md");
    private static final Path PROGRAM = Path.of("src/main/java/ParadeRow.java");
    private static final Path TESTS = Path.of("src/test/java");
    private static final Pattern QUOTE = Pattern.compile("Sentence\\.holds\\(\\w+, \"((?:[^\"\\\\]|\\\\.)*)\"");

    /** What the document says of itself, which no call can break. */
    private static final String[] OF_ITSELF = {
        "Words in capitals are told where they come first\\.", "## (Terms|Promise \\d+: (A new object|\\w+))", "```(text|java)?",
        "Ahead of the calls .*? the interface says: ---- [^.]*\\.", "`(int )?\\w+\\([^()]*\\)`:", "======== \\d"};

    private DocumentTest() {
    }

    public static void main(String[] args) throws IOException {
        String document = Files.readString(DOCUMENT);
        face(document);
        promises(document);
        parts(document);
        words(document);
        Due.end("DocumentTest");
    }

    private static List<MatchResult> all(String pattern, String text) {
        return Pattern.compile(pattern).matcher(text).results().toList();
    }

    private static String faceOf(String document) {
        Matcher block = Pattern.compile("(?s)## The public face\\s+```java(.*?)```").matcher(document);
        return block.find() ? block.group(1) : "";
    }

    /** The heads of the calls as the class has them, with the document's names for their numbers. */
    private static List<String> heads(String face) {
        List<String> heads = new ArrayList<>();
        for (MatchResult head : all("public int (\\w+)\\(([^()]*)\\)", face)) {
            heads.add("int " + head.group(1) + "(" + head.group(2) + ")");
        }
        return heads;
    }

    private static void face(String document) throws IOException {
        String face = faceOf(document);
        List<String> due = heads(face);
        Due.is("calls of the face", due.size(), 34);
        Due.same("calls as the program has them", heads(Files.readString(PROGRAM)), due);
        for (MatchResult call : all("public int (\\w+)\\(([^()]*)\\)", face)) {
            int numbers = call.group(2).isEmpty() ? 0 : call.group(2).split(",").length;
            Due.is("public calls " + call.group(), countPublic(call.group(1), numbers), 1);
        }
        List<MatchResult> constants = all("([A-Z]+) = (-?\\d+)", face);
        Due.is("constants of the face", constants.size(), 5);
        for (MatchResult constant : constants) {
            Due.is(constant.group(1), valueOf(constant.group(1)), Integer.parseInt(constant.group(2)));
        }
    }

    private static long countPublic(String name, int numbers) {
        Class<?>[] ints = new Class<?>[numbers];
        Arrays.fill(ints, int.class);
        return Arrays.stream(ParadeRow.class.getMethods()).filter(method -> isCall(method, name, ints)).count();
    }

    private static boolean isCall(Method method, String name, Class<?>[] ints) {
        return method.getName().equals(name) && method.getReturnType() == int.class
            && Arrays.equals(method.getParameterTypes(), ints);
    }

    private static int valueOf(String name) {
        try {
            return ParadeRow.class.getField(name).getInt(null);
        } catch (NoSuchFieldException | IllegalAccessException wrong) {
            System.out.println("no constant " + name);
            return 0;
        }
    }

    /** Promise 1 is the constructor; behind it comes each call of the face, in its order. */
    private static void promises(String document) {
        List<String> due = heads(faceOf(document));
        List<MatchResult> promises = all("## Promise (\\d+): [^\\n]*\\s+`([^`]*)`", document);
        Due.is("promises", promises.size(), due.size() + 1);
        for (int i = 0; i < promises.size(); i++) {
            Due.same("number of a promise", promises.get(i).group(1), String.valueOf(i + 1));
            Due.same("call of promise " + (i + 1), promises.get(i).group(2), i == 0 ? "ParadeRow()" : due.get(i - 1));
        }
    }

    /** What stands ahead of which calls; the program has the same headings over the same calls. */
    private static void parts(String document) throws IOException {
        String program = Files.readString(PROGRAM);
        List<MatchResult> parts = all("Ahead of the calls (.*?) the interface says: (---- [^.]*)\\.", document);
        Due.is("parts", parts.size(), 5);
        for (MatchResult part : parts) {
            int from = program.indexOf("// " + part.group(2) + "\n");
            int to = program.indexOf("// ----", from + 1);
            Due.is("heading " + part.group(2), from >= 0 && to > from ? 1 : 0, 1);
            List<String> due = all("`(\\w+)`", part.group(1)).stream().map(one -> one.group(1)).toList();
            String under = program.substring(Math.max(from, 0), Math.max(to, Math.max(from, 0)));
            List<String> found = all("public int (\\w+)\\(", under).stream().map(one -> one.group(1)).toList();
            Due.same("calls under " + part.group(2), found, due);
        }
    }

    private static List<String> quotes() throws IOException {
        List<String> quotes = new ArrayList<>();
        try (DirectoryStream<Path> files = Files.newDirectoryStream(TESTS, "*Test.java")) {
            for (Path file : files) {
                Matcher matcher = QUOTE.matcher(Files.readString(file));
                while (matcher.find()) {
                    quotes.add(matcher.group(1));
                }
            }
        }
        return quotes;
    }

    private static void words(String document) throws IOException {
        String plain = document.replaceAll("\\s+", " ");
        String text = plain.substring(plain.indexOf("## Terms"), plain.indexOf("## Not promised"));
        boolean[] held = new boolean[text.length()];
        List<String> quotes = quotes();
        Due.is("quotes are found", quotes.size() > 200 ? 1 : 0, 1);
        for (String quote : quotes) {
            hold(text, Pattern.quote(quote), held);
        }
        for (String pattern : OF_ITSELF) {
            hold(text, pattern, held);
        }
        for (MatchResult word : all("[\\w'-]+", text)) {
            boolean isHeld = held[word.start()] && held[word.end() - 1];
            Due.same("a test's quote holds", isHeld ? "" : around(text, word), "");
        }
    }

    private static void hold(String text, String pattern, boolean[] held) {
        for (MatchResult found : all(pattern, text)) {
            Arrays.fill(held, found.start(), found.end(), true);
        }
    }

    private static String around(String text, MatchResult word) {
        return "'" + word.group() + "' of '" + text.substring(Math.max(word.start() - 30, 0), Math.min(word.end() + 30, text.length())) + "'";
    }
}
