import java.util.ArrayDeque;
import java.util.ArrayList;
import java.util.Comparator;
import java.util.Deque;
import java.util.List;
import java.util.TreeMap;

/**
 * The document once more, written apart from the class and in another way (lists, maps, sorting, whole copies),
 * so that a slip in one of the two shows as a difference.
 */
final class Model {
    static final class Town {
        final List<Integer> marks = new ArrayList<>();
        final List<Integer> changes = new ArrayList<>();
        final List<Integer> is = new ArrayList<>();
        final TreeMap<Integer, Integer> memory = new TreeMap<>();
        int years = 0;

        Town copy() {
            Town other = new Town();
            other.marks.addAll(marks);
            other.changes.addAll(changes);
            other.is.addAll(is);
            other.memory.putAll(memory);
            other.years = years;
            return other;
        }

        int size() {
            return marks.size();
        }

        void passYear() {
            for (int p = 0; p < size(); p++) {
                if (changes.get(p) > 0) {
                    int mark = (years * changes.get(p) + p) % 8;
                    boolean has = marks.get(p) / (1 << mark) % 2 == 1;
                    marks.set(p, has ? marks.get(p) - (1 << mark) : marks.get(p) + (1 << mark));
                }
            }
            years++;
        }
    }

    record Sight(int w, int p, int row, int x) {
    }

    record Entry(int p, int who) {
    }

    private record Fault(int letter, int number) {
    }

    private Town town = new Town();
    private final StringBuilder text = new StringBuilder();
    private int fault = -1;
    private long seed = 0;
    private final Deque<Town> past = new ArrayDeque<>();
    private final List<Sight> sights = new ArrayList<>();
    private final List<Entry> book = new ArrayList<>();
    private final Town[] images = new Town[2];
    private final long[] seeds = new long[2];

    private static int apart(int a, int b) {
        int n = 0;
        for (int k = 0; k < 8; k++) {
            n += (a / (1 << k) % 2 == b / (1 << k) % 2) ? 0 : 1;
        }
        return n;
    }

    private boolean there(int... persons) {
        for (int p : persons) {
            if (p < 0 || p >= town.size()) {
                return false;
            }
        }
        return true;
    }

    private boolean two(int w, int p) {
        return there(w, p) && w != p;
    }

    private boolean bitsThere(int row) {
        return row >= 0 && row < 1 << town.size();
    }

    private boolean rowFor(int w, int row) {
        return bitsThere(row) && !members(row).contains(w);
    }

    private static List<Integer> members(int row) {
        List<Integer> all = new ArrayList<>();
        for (int p = 0; p < 8; p++) {
            if (row / (1 << p) % 2 == 1) {
                all.add(p);
            }
        }
        return all;
    }

    private Integer memory(int w, int p) {
        return town.memory.get(10 * w + p);
    }

    private static int pick(List<Integer> marks, int memory, int row) {
        return members(row).stream()
            .min(Comparator.<Integer>comparingInt(q -> apart(marks.get(q), memory)).thenComparingInt(q -> q)).orElse(-1);
    }

    private static int sureOf(List<Integer> marks, int memory, int p, int row) {
        if (pick(marks, memory, row) != p) {
            return 0;
        }
        int others = members(row).stream().filter(q -> q != p).mapToInt(q -> apart(marks.get(q), memory)).min().orElse(0);
        return 1 + others - apart(marks.get(p), memory);
    }

    private List<Integer> rowsOf(int n, int without) {
        List<Integer> all = new ArrayList<>();
        for (int row = 0; row < 1 << town.size(); row++) {
            if (members(row).size() == n && !members(row).contains(without)) {
                all.add(row);
            }
        }
        return all;
    }

    // ---- the place

    int feed(int letter) {
        if (letter < 0 || letter > 255) {
            return Due.OUTSIDE;
        }
        if (text.length() == 240) {
            return Due.FULL;
        }
        text.append((char) letter);
        return text.length();
    }

    int place() {
        Town told = new Town();
        Fault found = read(text.toString(), told);
        text.setLength(0);
        if (found != null) {
            fault = found.letter();
            return -10 - found.number();
        }
        fault = -1;
        town = told;
        past.clear();
        sights.clear();
        book.clear();
        images[0] = null;
        images[1] = null;
        return town.size();
    }

    private record Token(int letter, char kind, String figures) {
    }

    private static List<Token> tokens(String s) {
        List<Token> all = new ArrayList<>();
        int i = 0;
        while (i < s.length()) {
            char c = s.charAt(i);
            int end = i + 1;
            if (c >= '0' && c <= '9') {
                while (end < s.length() && s.charAt(end) >= '0' && s.charAt(end) <= '9') {
                    end++;
                }
                all.add(new Token(i, 'n', s.substring(i, end)));
            } else if (c != ' ') {
                all.add(new Token(i, c == 'n' || c == 'e' ? '?' : c, ""));
            }
            i = end;
        }
        all.add(new Token(s.length(), 'e', ""));
        return all;
    }

    private static Fault read(String s, Town told) {
        String shape = "";
        List<Integer> numbers = new ArrayList<>();
        for (Token t : tokens(s)) {
            boolean stands = shape.isEmpty() ? "pke".indexOf(t.kind()) >= 0
                : shape.length() < 3 ? t.kind() == 'n' : t.kind() == ';';
            if (!stands) {
                return new Fault(t.letter(), 1);
            }
            if (t.kind() == 'e') {
                return null;
            }
            if (t.kind() == 'p' && told.size() == 8) {
                return new Fault(t.letter(), 3);
            }
            if (t.kind() == ';') {
                finish(shape, numbers, told);
                shape = "";
                numbers.clear();
                continue;
            }
            if (t.kind() == 'n') {
                int most = shape.charAt(0) == 'k' ? told.size() - 1 : shape.length() == 1 ? 255 : 7;
                if (t.figures().length() > 3 || Integer.parseInt(t.figures()) > most) {
                    return new Fault(t.letter(), 2);
                }
                numbers.add(Integer.parseInt(t.figures()));
                if (shape.equals("kn") && (numbers.get(0).equals(numbers.get(1))
                        || told.memory.containsKey(10 * numbers.get(0) + numbers.get(1)))) {
                    return new Fault(t.letter(), 4);
                }
            }
            shape += t.kind();
        }
        throw new IllegalStateException("a text has an end");
    }

    private static void finish(String shape, List<Integer> numbers, Town told) {
        if (shape.charAt(0) == 'p') {
            told.is.add(told.size());
            told.marks.add(numbers.get(0));
            told.changes.add(numbers.get(1));
        } else {
            told.memory.put(10 * numbers.get(0) + numbers.get(1), told.marks.get(numbers.get(1)));
        }
    }

    int fault() {
        return fault;
    }

    int told(int what) {
        int set = 0;
        switch (what) {
            case 0: return town.size();
            case 1: return text.length();
            case 2: return town.years;
            case 3:
                for (int p = 0; p < town.size(); p++) {
                    int who = town.is.get(p);
                    set += town.is.stream().filter(q -> q == who).count() > 1 ? 1 << p : 0;
                }
                return set;
            case 4:
                for (int p = 0; p < town.size(); p++) {
                    set += town.is.contains(p) ? 0 : 1 << p;
                }
                return set;
            case 5: return town.memory.size();
            case 6: return sights.size();
            case 7: return book.size();
            case 8: return past.size();
            default: return Due.OUTSIDE;
        }
    }

    int person(int p, int what) {
        if (!there(p)) {
            return Due.UNKNOWN;
        }
        switch (what) {
            case 0: return town.marks.get(p);
            case 1: return town.changes.get(p);
            case 2: return town.is.get(p);
            case 3: return town.memory.keySet().stream().filter(k -> k / 10 == p).mapToInt(k -> 1 << k % 10).sum();
            case 4: return town.memory.keySet().stream().filter(k -> k % 10 == p).mapToInt(k -> 1 << k / 10).sum();
            default: return Due.OUTSIDE;
        }
    }

    int remembers(int w, int p) {
        return !two(w, p) ? Due.UNKNOWN : memory(w, p) == null ? -1 : memory(w, p);
    }

    // ---- what is done

    private void remember() {
        past.addLast(town.copy());
        if (past.size() > 20) {
            past.removeFirst();
        }
    }

    private Integer noYears(int n) {
        if (n < 1 || n > 60) {
            return Due.OUTSIDE;
        }
        return town.size() == 0 ? Integer.valueOf(Due.NOT) : town.years > 9000 ? Integer.valueOf(Due.FULL) : null;
    }

    int year(int n) {
        Integer no = noYears(n);
        if (no != null) {
            return no;
        }
        remember();
        for (int i = 0; i < n; i++) {
            town.passYear();
        }
        return town.years;
    }

    int meet(int w, int p) {
        if (!two(w, p)) {
            return Due.UNKNOWN;
        }
        remember();
        Integer before = town.memory.put(10 * w + p, town.marks.get(p));
        return before == null ? -1 : apart(before, town.marks.get(p));
    }

    int forget(int w, int p) {
        if (!two(w, p)) {
            return Due.UNKNOWN;
        }
        if (memory(w, p) == null) {
            return Due.NOT;
        }
        remember();
        return town.memory.remove(10 * w + p);
    }

    int parade(int w, int p, int row) {
        if (!two(w, p) || !rowFor(w, row)) {
            return Due.UNKNOWN;
        }
        if (members(row).size() < 2) {
            return Due.OUTSIDE;
        }
        if (memory(w, p) == null) {
            return Due.NOT;
        }
        remember();
        int picked = pick(town.marks, memory(w, p), row);
        town.is.set(picked, p);
        return picked;
    }

    int mark(int p, int k) {
        if (!there(p)) {
            return Due.UNKNOWN;
        }
        if (k < 0 || k > 7) {
            return Due.OUTSIDE;
        }
        remember();
        town.marks.set(p, town.marks.get(p) ^ 1 << k);
        return town.marks.get(p);
    }

    private int draw(int n) {
        seed = (seed * 1103515245L + 12345L) % 2147483648L;
        return (int) (seed / 65536 % n);
    }

    int drift(int n) {
        Integer no = noYears(n);
        if (no != null) {
            return no;
        }
        remember();
        for (int i = 0; i < n; i++) {
            int w = draw(town.size());
            int p = draw(town.size());
            if (w != p) {
                town.memory.put(10 * w + p, town.marks.get(p));
            }
            town.passYear();
        }
        return town.years;
    }

    int undo() {
        if (past.isEmpty()) {
            return Due.NOT;
        }
        town = past.removeLast();
        return past.size();
    }

    // ---- tried

    private Integer noRow(int w, int p, int row, boolean others, boolean inside) {
        if (!two(w, p) || !rowFor(w, row) || !others) {
            return Due.UNKNOWN;
        }
        if (members(row).size() < 2 || !inside) {
            return Due.OUTSIDE;
        }
        return memory(w, p) == null ? Integer.valueOf(Due.NOT) : null;
    }

    int sure(int w, int p, int row) {
        Integer no = noRow(w, p, row, true, members(Math.max(row, 0)).contains(p));
        return no != null ? no : sureOf(town.marks, memory(w, p), p, row);
    }

    int bestRow(int w, int p, int n) {
        if (!two(w, p)) {
            return Due.UNKNOWN;
        }
        if (n < 2 || n > 8) {
            return Due.OUTSIDE;
        }
        if (memory(w, p) == null) {
            return Due.NOT;
        }
        return rowsOf(n, w).stream()
            .filter(row -> members(row).contains(p) && pick(town.marks, memory(w, p), row) == p)
            .min(Comparator.<Integer>comparingInt(row -> -sureOf(town.marks, memory(w, p), p, row)).thenComparingInt(row -> row))
            .orElse(-1);
    }

    int odds(int w, int p, int row, int x) {
        Integer no = noRow(w, p, row, there(x), true);
        if (no != null) {
            return no;
        }
        if (!members(row).contains(x)) {
            return 0;
        }
        long all = members(row).stream().mapToLong(q -> 9 - apart(town.marks.get(q), memory(w, p))).sum();
        return (int) ((9 - apart(town.marks.get(x), memory(w, p))) * 1000000L / all);
    }

    int ask(int p, int row) {
        if (!there(p) || !bitsThere(row)) {
            return Due.UNKNOWN;
        }
        if (members(row).size() < 2 || !members(row).contains(p)) {
            return Due.OUTSIDE;
        }
        int best = -1;
        for (int w = town.size() - 1; w >= 0; w--) {
            if (w != p && memory(w, p) != null && !members(row).contains(w) && pick(town.marks, memory(w, p), row) == p
                    && (best < 0 || sureOf(town.marks, memory(w, p), p, row) >= sureOf(town.marks, memory(best, p), p, row))) {
                best = w;
            }
        }
        return best;
    }

    int ring(int p) {
        if (!there(p)) {
            return Due.UNKNOWN;
        }
        List<Integer> way = new ArrayList<>();
        int at = town.is.get(p);
        while (at != p && !way.contains(at)) {
            way.add(at);
            at = town.is.get(at);
        }
        return at == p ? way.size() + 1 : -1;
    }

    int rings(int what) {
        int n = 0;
        for (int p = 0; p < town.size(); p++) {
            boolean astray = town.is.get(p) != p;
            n += what == 0 && ring(p) >= 2 || what == 1 && astray || what == 2 && astray && person(p, 4) != 0 ? 1 : 0;
        }
        return what < 0 || what > 2 ? Due.OUTSIDE : n;
    }

    private int fewest(int memory, int row, int who, int m) {
        int best = -1;
        for (int set = 255; set >= 0; set--) {
            List<Integer> marks = new ArrayList<>(town.marks);
            marks.set(who, marks.get(who) ^ set);
            if (sureOf(marks, memory, who, row) >= m && (best < 0 || apart(set, 0) <= apart(best, 0))) {
                best = set;
            }
        }
        return best;
    }

    int mask(int w, int p, int row, int m) {
        Integer no = noRow(w, p, row, true, members(Math.max(row, 0)).contains(p) && m >= 1 && m <= 8);
        return no != null ? no : fewest(memory(w, p), row, p, m);
    }

    int spoil(int w, int p, int row, int x) {
        Integer no = noRow(w, p, row, there(x) && x != p, members(Math.max(row, 0)).contains(x));
        return no != null ? no : fewest(memory(w, p), row, x, 1);
    }

    int impostor(int w, int p, int x, int n, int what) {
        if (!two(w, p) || !two(w, x)) {
            return Due.UNKNOWN;
        }
        if (n < 2 || n > 8 || what < 0 || what > 1) {
            return Due.OUTSIDE;
        }
        if (memory(w, p) == null) {
            return Due.NOT;
        }
        List<Integer> rows = new ArrayList<>(rowsOf(n, w));
        rows.removeIf(row -> pick(town.marks, memory(w, p), row) != x);
        return what == 0 ? rows.size() : rows.isEmpty() ? -1 : rows.get(0);
    }

    int lost(int i) {
        List<Integer> pairs = new ArrayList<>(town.memory.keySet());
        pairs.removeIf(k -> apart(town.memory.get(k), town.marks.get(k % 10)) < 3);
        return i == -1 ? pairs.size() : i < 0 || i >= pairs.size() ? -1 : pairs.get(i);
    }

    int alike(int n) {
        if (n < 0 || n > 60) {
            return Due.OUTSIDE;
        }
        Town later = town.copy();
        for (int i = 0; i < n; i++) {
            later.passYear();
        }
        for (int pair = 0; pair < 100; pair++) {
            int p = pair / 10;
            int q = pair % 10;
            if (p < q && q < later.size() && later.marks.get(p).equals(later.marks.get(q))) {
                return pair;
            }
        }
        return -1;
    }

    // ---- what is seen

    int see(int w, int p, int row, int x) {
        Integer no = noRow(w, p, row, there(x), members(Math.max(row, 0)).contains(x));
        if (no != null) {
            return no;
        }
        if (sights.size() == 8) {
            return Due.FULL;
        }
        sights.add(new Sight(w, p, row, x));
        return sights.size();
    }

    int honest() {
        int set = 0;
        for (int w = 0; w < town.size(); w++) {
            set += nods(w) == 0 ? 1 << w : 0;
        }
        return set;
    }

    int nods(int w) {
        if (!there(w)) {
            return Due.UNKNOWN;
        }
        return (int) sights.stream().filter(s -> s.w() == w)
            .filter(s -> memory(w, s.p()) == null || pick(town.marks, memory(w, s.p()), s.row()) != s.x()).count();
    }

    private int width(int memory, int row) {
        List<Integer> aparts = new ArrayList<>();
        members(row).forEach(q -> aparts.add(apart(town.marks.get(q), memory)));
        aparts.sort(null);
        return aparts.get(aparts.size() - 1) - aparts.get(0);
    }

    int showNext(int w, int p) {
        if (!two(w, p)) {
            return Due.UNKNOWN;
        }
        if (memory(w, p) == null) {
            return Due.NOT;
        }
        return rowsOf(3, w).stream()
            .min(Comparator.<Integer>comparingInt(row -> -width(memory(w, p), row)).thenComparingInt(row -> row)).orElse(-1);
    }

    int write(int p, int who) {
        if (!there(p, who)) {
            return Due.UNKNOWN;
        }
        if (book.size() == 15) {
            return Due.FULL;
        }
        book.add(new Entry(p, who));
        return book.size();
    }

    int tear() {
        int had = sights.size() + book.size();
        sights.clear();
        book.clear();
        return had;
    }

    int judge() {
        for (Entry e : book) {
            if (town.is.get(e.p()) != e.who()) {
                return book.indexOf(e);
            }
        }
        return -1;
    }

    // ---- draws, images

    int seed(int v) {
        if (v < 0) {
            return Due.OUTSIDE;
        }
        int before = (int) seed;
        seed = v;
        return before;
    }

    int keep(int i) {
        if (i != 0 && i != 1) {
            return Due.UNKNOWN;
        }
        images[i] = town.copy();
        seeds[i] = seed;
        past.clear();
        return 1;
    }

    int goBack(int i) {
        if (i != 0 && i != 1) {
            return Due.UNKNOWN;
        }
        if (images[i] == null) {
            return Due.NOT;
        }
        town = images[i].copy();
        seed = seeds[i];
        past.clear();
        return 1;
    }
}
