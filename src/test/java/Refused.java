/**
 * Lines of calls that are refused alike wherever there are W and P, or a row, in the five persons of Towns.STEPS:
 * the words W, P and ROW in the call stand for what is tried.
 */
final class Refused {
    private static final String[] NO_PERSONS = {"-1", "5", "8", "32", "MIN", "MAX"};
    private static final int[] BITS_OF_NONE = {5, 7, 8, 30, 31};

    private Refused() {
    }

    private static String with(String call, String w, String p, String row) {
        return call.replace("ROW", row).replace("W", w).replace("P", p) + "=UNKNOWN ";
    }

    /** A person that there is not. */
    static String strangers(String call, String word) {
        StringBuilder line = new StringBuilder();
        for (String nobody : NO_PERSONS) {
            line.append(call.replace(word, nobody)).append("=UNKNOWN ");
        }
        return line.toString();
    }

    /** A W, a P, both that there are not; W like P. The row in the call has 0 and 1 alone. */
    static String pairs(String call) {
        String one = call.replace("ROW", "3");
        StringBuilder line = new StringBuilder();
        line.append(strangers(one.replace("P", "2"), "W"));
        line.append(strangers(one.replace("W", "4"), "P"));
        line.append(with(one, "5", "6", "")).append(with(one, "5", "5", "")).append(with(one, "-1", "-1", ""));
        line.append(with(one, "4", "4", "")).append(with(one, "2", "2", ""));
        return line.toString();
    }

    /** Bits of none, alone and beside those of 0 and 2; bits of W. */
    static String rows(String call) {
        StringBuilder line = new StringBuilder();
        for (int bit : BITS_OF_NONE) {
            line.append(with(call, "4", "2", String.valueOf(1 << bit)));
            line.append(with(call, "4", "2", String.valueOf(1 << bit | 5)));
        }
        line.append(with(call, "4", "2", "-1"));
        line.append(with(call, "4", "2", "16")).append(with(call, "4", "2", "21"));
        return line.toString();
    }
}
