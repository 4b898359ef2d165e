import java.io.IOException;
import java.nio.file.Files;
import java.nio.file.Path;
import java.util.regex.Matcher;
import java.util.regex.Pattern;

/** A sentence of the document, with the test of it. */
final class Sentence {
    private static final Path PATH = Path.of("../shared/DOC.md");
    private static final int PROMISES = 35;
    private static final String DOCUMENT = document();
    private static final int[] TESTS = new int[PROMISES + 1];

    private Sentence() {
    }

    private static String document() {
        if (!Files.isReadable(PATH)) {
            System.out.println(PATH + " is not here: what is quoted of it is not compared");
            return "";
        }
        try {
            return Files.readString(PATH).replaceAll("\\s+", " ");
        } catch (IOException wrong) {
            throw new IllegalStateException(wrong);
        }
    }

    /** Promise 0: what the document tells ahead of all promises. */
    static void holds(int promise, String quote, Runnable test) {
        TESTS[promise]++;
        Due.under((promise == 0 ? "Terms" : "Promise " + promise) + ", \"" + quote + "\": ");
        if (!DOCUMENT.isEmpty()) {
            Due.is("stands in the document", DOCUMENT.contains(quote) ? 1 : 0, 1);
        }
        int before = Due.answers();
        test.run();
        Due.is("has a test", Due.answers() > before ? 1 : 0, 1);
        Due.under("");
    }

    /** Each refusal that the promise lists was tried, and looked at for what it changes. */
    private static void refusals(int promise) {
        Matcher section = Pattern.compile("## Promise " + promise + ": (\\w+) (.*?)(?=## |$)").matcher(DOCUMENT);
        if (promise > 1 && section.find()) {
            Matcher words = Pattern.compile("\\b(UNKNOWN|OUTSIDE|NOT|FULL)\\b").matcher(section.group(2));
            while (words.find()) {
                Due.is("a test of " + section.group(1) + "() with the answer " + words.group(),
                    Script.hasRefused(section.group(1), words.group()) ? 1 : 0, 1);
            }
        }
    }

    static void end(String name, int firstPromise, int lastPromise) {
        int sentences = 0;
        for (int promise = firstPromise; promise <= lastPromise; promise++) {
            Due.is("sentences of promise " + promise, TESTS[promise] > 0 ? 1 : 0, 1);
            sentences += TESTS[promise];
            refusals(promise);
        }
        Due.end(name + ", " + sentences + " sentences");
    }
}
