import java.lang.reflect.InvocationTargetException;
import java.lang.reflect.Method;
import java.util.HashMap;
import java.util.HashSet;
import java.util.Map;
import java.util.Set;
import java.util.function.Supplier;
import java.util.regex.Matcher;
import java.util.regex.Pattern;

/** Calls told in a line, as "year(1)=1 told(2)=1": made one behind the other, compared where an answer is told. */
final class Script {
    private static final Pattern CALL = Pattern.compile("(\\w+)\\(([^()]*)\\)(?:=(-?\\w+))?");
    private static final Map<String, Method> METHODS = methods();
    private static final Map<String, Integer> WORDS = Map.of("NONE", Due.NONE, "UNKNOWN", Due.UNKNOWN,
        "OUTSIDE", Due.OUTSIDE, "NOT", Due.NOT, "FULL", Due.FULL, "MIN", Integer.MIN_VALUE, "MAX", Integer.MAX_VALUE);

    /** Which calls were tried with which refusal: "year FULL". */
    private static final Set<String> REFUSALS = new HashSet<>();

    private Script() {
    }

    private static Map<String, Method> methods() {
        Map<String, Method> found = new HashMap<>();
        for (Method method : ParadeRow.class.getMethods()) {
            if (method.getDeclaringClass() == ParadeRow.class) {
                found.put(method.getName(), method);
            }
        }
        return found;
    }

    static void run(ParadeRow x, String line) {
        for (String call : line.trim().split("\\s+")) {
            Matcher parts = partsOf(call);
            int got = answer(x, parts);
            if (parts.group(3) != null) {
                Due.is(call.substring(0, call.indexOf('=')), got, number(parts.group(3)));
            }
        }
    }

    /** Each call of the line, on an object of its own: refused as told, and nothing is changed by it. */
    static void refused(Supplier<ParadeRow> maker, String line) {
        for (String call : line.trim().split("\\s+")) {
            Matcher parts = partsOf(call);
            REFUSALS.add(parts.group(1) + " " + parts.group(3));
        }
        tried(maker, line);
    }

    static boolean hasRefused(String name, String refusal) {
        return REFUSALS.contains(name + " " + refusal);
    }

    /** Each call of the line, on an object of its own: answered as told, and nothing is changed by it. */
    static void tried(Supplier<ParadeRow> maker, String line) {
        for (String call : line.trim().split("\\s+")) {
            ParadeRow x = maker.get();
            run(x, call);
            Due.same("what is so behind " + call, Picture.of(x), Picture.of(maker.get()));
        }
    }

    private static Matcher partsOf(String call) {
        Matcher parts = CALL.matcher(call);
        if (!parts.matches()) {
            throw new IllegalArgumentException("no call: " + call);
        }
        return parts;
    }

    private static int number(String word) {
        return WORDS.containsKey(word) ? WORDS.get(word) : Integer.parseInt(word);
    }

    private static int answer(ParadeRow x, Matcher parts) {
        String[] words = parts.group(2).isEmpty() ? new String[0] : parts.group(2).split(",");
        Object[] numbers = new Object[words.length];
        for (int i = 0; i < words.length; i++) {
            numbers[i] = number(words[i]);
        }
        try {
            return (Integer) METHODS.get(parts.group(1)).invoke(x, numbers);
        } catch (IllegalAccessException | InvocationTargetException wrong) {
            throw new IllegalStateException(parts.group(), wrong);
        }
    }
}
