import java.util.Arrays;

/**
 * Identity by parade: people with marks that change by years, what they remember of one another,
 * and who is picked as whom out of a row. DOC.md's numbered promises say what each call answers.
 */
public final class ParadeRow {
    public static final int NONE = -1, UNKNOWN = -1000000001, OUTSIDE = -1000000002, NOT = -1000000003, FULL = -1000000004;

    private static final int ALLOWED = 0;
    private static final int MILLION = 1000000;
    private static final int MOST_PERSONS = 8;
    private static final int MARK_KINDS = 8;
    private static final int MOST_MARKS = 255;
    private static final int MOST_CHANGES = 7;
    private static final int MOST_LETTERS = 240;
    private static final int LAST_LETTER = 255;
    private static final int MOST_FIGURES = 3;
    private static final int MOST_YEARS_AT_ONCE = 60;
    private static final int LAST_OPEN_YEAR = 9000;
    private static final int LEAST_ROW = 2;
    private static final int SHOWN_NEXT = 3;
    private static final int FULL_WEIGHT = 9;
    private static final int FADED_APART = 3;
    private static final int PAIR_BASE = 10;
    private static final int MOST_UNDONE = 20;
    private static final int MOST_SEEN = 8;
    private static final int MOST_ENTRIES = 15;
    private static final int ANSWER_OF_FAULTS = -10;

    private static final int FAULT_STANDS_WRONG = 1;
    private static final int FAULT_NUMBER = 2;
    private static final int FAULT_NINTH = 3;
    private static final int FAULT_PAIR = 4;

    private final Text text;
    private final People now;
    private final People scratch;
    private final Past past;
    private final Sightings sightings;
    private final Book book;
    private final Draws draws;
    private final Image firstImage;
    private final Image secondImage;

    public ParadeRow() {
        text = new Text();
        now = new People();
        scratch = new People();
        past = new Past();
        sightings = new Sightings();
        book = new Book();
        draws = new Draws();
        firstImage = new Image();
        secondImage = new Image();
    }

    // ---- the place

    public int feed(int letter) {
        int refused = refusal(true, isWithin(letter, 0, LAST_LETTER), true, text.hasRoom());
        return refused != ALLOWED ? refused : text.append(letter);
    }

    public int place() {
        int faultFound = text.tellInto(scratch);
        text.empty();
        if (faultFound != 0) {
            return ANSWER_OF_FAULTS - faultFound;
        }
        now.become(scratch);
        past.empty();
        sightings.empty();
        book.empty();
        firstImage.drop();
        secondImage.drop();
        return now.count;
    }

    public int fault() {
        return text.faultPlace;
    }

    public int told(int what) {
        switch (what) {
            case 0: return now.count;
            case 1: return text.length;
            case 2: return now.years;
            case 3: return now.twoOfOne();
            case 4: return now.nobodies();
            case 5: return now.countAcquaintances();
            case 6: return sightings.count;
            case 7: return book.count;
            case 8: return past.count;
            default: return OUTSIDE;
        }
    }

    public int person(int p, int what) {
        if (!now.has(p)) {
            return UNKNOWN;
        }
        switch (what) {
            case 0: return now.marksOf(p);
            case 1: return now.changesOf(p);
            case 2: return now.identityOf(p);
            case 3: return now.knownBy(p);
            case 4: return now.knowersOf(p);
            default: return OUTSIDE;
        }
    }

    public int remembers(int w, int p) {
        return now.isPair(w, p) ? now.memoryOf(w, p) : UNKNOWN;
    }

    // ---- what is done

    public int year(int n) {
        int refused = refusalOfYears(n);
        if (refused != ALLOWED) {
            return refused;
        }
        past.push(now);
        now.passYears(n);
        return now.years;
    }

    public int meet(int w, int p) {
        if (!now.isPair(w, p)) {
            return UNKNOWN;
        }
        past.push(now);
        int before = now.memoryOf(w, p);
        now.learn(w, p);
        return before == NONE ? NONE : Eyes.apart(before, now.marksOf(p));
    }

    public int forget(int w, int p) {
        int refused = refusal(now.isPair(w, p), true, now.knows(w, p), true);
        if (refused != ALLOWED) {
            return refused;
        }
        past.push(now);
        int before = now.memoryOf(w, p);
        now.unlearn(w, p);
        return before;
    }

    public int parade(int w, int p, int row) {
        int refused = refusal(isAsked(w, p, row), isLongEnough(row), now.knows(w, p), true);
        if (refused != ALLOWED) {
            return refused;
        }
        past.push(now);
        int picked = Eyes.pick(now, now.memoryOf(w, p), row);
        now.identify(picked, p);
        return picked;
    }

    public int mark(int p, int k) {
        int refused = refusal(now.has(p), isWithin(k, 0, MARK_KINDS - 1), true, true);
        if (refused != ALLOWED) {
            return refused;
        }
        past.push(now);
        now.flip(p, k);
        return now.marksOf(p);
    }

    public int drift(int n) {
        int refused = refusalOfYears(n);
        if (refused != ALLOWED) {
            return refused;
        }
        past.push(now);
        for (int i = 0; i < n && i < MOST_YEARS_AT_ONCE; i++) {
            meetByDraws();
            now.passYears(1);
        }
        return now.years;
    }

    public int undo() {
        return past.popInto(now) ? past.count : NOT;
    }

    // ---- tried

    public int sure(int w, int p, int row) {
        int refused = refusal(isAsked(w, p, row), isLongEnough(row) && hasBit(row, p), now.knows(w, p), true);
        return refused != ALLOWED ? refused : Eyes.sureness(now, now.memoryOf(w, p), row, p);
    }

    public int bestRow(int w, int p, int n) {
        int refused = refusal(now.isPair(w, p), isRowLength(n), now.knows(w, p), true);
        return refused != ALLOWED ? refused : Rows.surest(now, w, p, n);
    }

    public int odds(int w, int p, int row, int x) {
        int refused = refusal(isAsked(w, p, row) && now.has(x), isLongEnough(row), now.knows(w, p), true);
        return refused != ALLOWED ? refused : Eyes.oddsOf(now, now.memoryOf(w, p), row, x);
    }

    public int ask(int p, int row) {
        int refused = refusal(now.has(p) && now.holdsAll(row), isLongEnough(row) && hasBit(row, p), true, true);
        return refused != ALLOWED ? refused : Rows.surestWitness(now, p, row);
    }

    public int ring(int p) {
        return now.has(p) ? now.stepsBackTo(p) : UNKNOWN;
    }

    public int rings(int what) {
        switch (what) {
            case 0: return now.countInRings();
            case 1: return now.countAstray();
            case 2: return now.countAstrayAndKnown();
            default: return OUTSIDE;
        }
    }

    public int mask(int w, int p, int row, int m) {
        boolean inside = isLongEnough(row) && hasBit(row, p) && isWithin(m, 1, MARK_KINDS);
        int refused = refusal(isAsked(w, p, row), inside, now.knows(w, p), true);
        return refused != ALLOWED ? refused : Rows.fewestMarks(now, now.memoryOf(w, p), row, p, m);
    }

    public int spoil(int w, int p, int row, int x) {
        boolean there = isAsked(w, p, row) && now.isPair(x, p);
        int refused = refusal(there, isLongEnough(row) && hasBit(row, x), now.knows(w, p), true);
        return refused != ALLOWED ? refused : Rows.fewestMarks(now, now.memoryOf(w, p), row, x, 1);
    }

    public int impostor(int w, int p, int x, int n, int what) {
        boolean there = now.isPair(w, p) && now.isPair(w, x);
        int refused = refusal(there, isRowLength(n) && isWithin(what, 0, 1), now.knows(w, p), true);
        if (refused != ALLOWED) {
            return refused;
        }
        int memory = now.memoryOf(w, p);
        return what == 0 ? Rows.countPicking(now, memory, w, x, n) : Rows.leastPicking(now, memory, w, x, n);
    }

    public int lost(int i) {
        return now.fadedPair(i);
    }

    public int alike(int n) {
        if (!isWithin(n, 0, MOST_YEARS_AT_ONCE)) {
            return OUTSIDE;
        }
        scratch.become(now);
        scratch.passYears(n);
        return scratch.firstTwins();
    }

    // ---- what is seen

    public int see(int w, int p, int row, int x) {
        boolean there = isAsked(w, p, row) && now.has(x);
        int refused = refusal(there, isLongEnough(row) && hasBit(row, x), now.knows(w, p), sightings.hasRoom());
        return refused != ALLOWED ? refused : sightings.add(w, p, row, x);
    }

    public int honest() {
        int set = 0;
        for (int w = 0; w < now.count; w++) {
            if (sightings.countOtherwise(now, w) == 0) {
                set |= 1 << w;
            }
        }
        return set;
    }

    public int nods(int w) {
        return now.has(w) ? sightings.countOtherwise(now, w) : UNKNOWN;
    }

    public int showNext(int w, int p) {
        int refused = refusal(now.isPair(w, p), true, now.knows(w, p), true);
        return refused != ALLOWED ? refused : Rows.widest(now, now.memoryOf(w, p), w);
    }

    public int write(int p, int who) {
        int refused = refusal(now.has(p) && now.has(who), true, true, book.hasRoom());
        return refused != ALLOWED ? refused : book.add(p, who);
    }

    public int tear() {
        int had = sightings.count + book.count;
        sightings.empty();
        book.empty();
        return had;
    }

    public int judge() {
        return book.firstWrong(now);
    }

    // ---- draws, images

    public int seed(int v) {
        if (v < 0) {
            return OUTSIDE;
        }
        int before = draws.state;
        draws.state = v;
        return before;
    }

    public int keep(int i) {
        Image image = imageOf(i);
        if (image == null) {
            return UNKNOWN;
        }
        image.take(now, draws.state);
        past.empty();
        return 1;
    }

    public int goBack(int i) {
        Image image = imageOf(i);
        if (image == null) {
            return UNKNOWN;
        }
        if (!image.kept) {
            return NOT;
        }
        now.become(image.people);
        draws.state = image.state;
        past.empty();
        return 1;
    }

    // ---- what several calls share

    /** One place for the order of the refusals, so that no call can mix it up. */
    private static int refusal(boolean there, boolean inside, boolean possible, boolean room) {
        if (!there) {
            return UNKNOWN;
        }
        if (!inside) {
            return OUTSIDE;
        }
        if (!possible) {
            return NOT;
        }
        return room ? ALLOWED : FULL;
    }

    private int refusalOfYears(int n) {
        return refusal(true, isWithin(n, 1, MOST_YEARS_AT_ONCE), now.count > 0, now.years <= LAST_OPEN_YEAR);
    }

    private boolean isAsked(int w, int p, int row) {
        return now.isPair(w, p) && now.holdsAll(row) && !hasBit(row, w);
    }

    private static boolean isLongEnough(int row) {
        return Integer.bitCount(row) >= LEAST_ROW;
    }

    private static boolean isRowLength(int n) {
        return isWithin(n, LEAST_ROW, MOST_PERSONS);
    }

    private static boolean isWithin(int value, int least, int most) {
        return value >= least && value <= most;
    }

    private static boolean hasBit(int set, int k) {
        return isWithin(k, 0, MOST_PERSONS - 1) && (set >> k & 1) == 1;
    }

    /** Both draws are made even if they are alike: the next year's draws hang on it. */
    private void meetByDraws() {
        int first = draws.drawOf(now.count);
        int second = draws.drawOf(now.count);
        if (first != second) {
            now.learn(first, second);
        }
    }

    private Image imageOf(int i) {
        if (i == 0) {
            return firstImage;
        }
        return i == 1 ? secondImage : null;
    }

    /** All of section 2: what undo and images bring back, and nothing else. */
    private static final class People {
        private final int[] marks;
        private final int[] changes;
        private final int[] identities;
        private final int[] memories;
        private int count;
        private int years;

        People() {
            marks = new int[MOST_PERSONS];
            changes = new int[MOST_PERSONS];
            identities = new int[MOST_PERSONS];
            memories = new int[MOST_PERSONS * MOST_PERSONS];
            Arrays.fill(memories, NONE);
        }

        void empty() {
            count = 0;
            years = 0;
            Arrays.fill(memories, NONE);
        }

        void become(People other) {
            System.arraycopy(other.marks, 0, marks, 0, MOST_PERSONS);
            System.arraycopy(other.changes, 0, changes, 0, MOST_PERSONS);
            System.arraycopy(other.identities, 0, identities, 0, MOST_PERSONS);
            System.arraycopy(other.memories, 0, memories, 0, MOST_PERSONS * MOST_PERSONS);
            count = other.count;
            years = other.years;
        }

        void add(int itsMarks, int itsChanges) {
            if (!isWithin(count, 0, MOST_PERSONS - 1)) {
                return;
            }
            marks[count] = itsMarks;
            changes[count] = itsChanges;
            identities[count] = count;
            count++;
        }

        boolean has(int p) {
            return p >= 0 && p < count && p < MOST_PERSONS;
        }

        boolean isPair(int w, int p) {
            return has(w) && has(p) && w != p;
        }

        int everybody() {
            return (1 << count) - 1;
        }

        boolean holdsAll(int row) {
            return (row & ~everybody()) == 0;
        }

        int marksOf(int p) {
            return has(p) ? marks[p] : 0;
        }

        int changesOf(int p) {
            return has(p) ? changes[p] : 0;
        }

        int identityOf(int p) {
            return has(p) ? identities[p] : NONE;
        }

        int memoryOf(int w, int p) {
            return isPair(w, p) ? memories[w * MOST_PERSONS + p] : NONE;
        }

        boolean knows(int w, int p) {
            return memoryOf(w, p) != NONE;
        }

        void flip(int p, int k) {
            if (has(p)) {
                marks[p] ^= 1 << k;
            }
        }

        void learn(int w, int p) {
            if (isPair(w, p)) {
                memories[w * MOST_PERSONS + p] = marksOf(p);
            }
        }

        void unlearn(int w, int p) {
            if (isPair(w, p)) {
                memories[w * MOST_PERSONS + p] = NONE;
            }
        }

        void identify(int picked, int p) {
            if (has(picked)) {
                identities[picked] = p;
            }
        }

        void passYears(int n) {
            for (int i = 0; i < n && i < MOST_YEARS_AT_ONCE; i++) {
                for (int p = 0; p < count; p++) {
                    if (changesOf(p) > 0) {
                        flip(p, (years * changesOf(p) + p) % MARK_KINDS);
                    }
                }
                years++;
            }
        }

        int knownBy(int w) {
            int set = 0;
            for (int p = 0; p < count; p++) {
                if (knows(w, p)) {
                    set |= 1 << p;
                }
            }
            return set;
        }

        int knowersOf(int p) {
            int set = 0;
            for (int w = 0; w < count; w++) {
                if (knows(w, p)) {
                    set |= 1 << w;
                }
            }
            return set;
        }

        int countAcquaintances() {
            int pairs = 0;
            for (int w = 0; w < count; w++) {
                pairs += Integer.bitCount(knownBy(w));
            }
            return pairs;
        }

        int whoAre(int who) {
            int set = 0;
            for (int p = 0; p < count; p++) {
                if (identityOf(p) == who) {
                    set |= 1 << p;
                }
            }
            return set;
        }

        int twoOfOne() {
            int set = 0;
            for (int who = 0; who < count; who++) {
                int those = whoAre(who);
                if (Integer.bitCount(those) > 1) {
                    set |= those;
                }
            }
            return set;
        }

        int nobodies() {
            int set = 0;
            for (int who = 0; who < count; who++) {
                if (whoAre(who) == 0) {
                    set |= 1 << who;
                }
            }
            return set;
        }

        /** A way back, if there is one, has no more steps than there are persons. */
        int stepsBackTo(int p) {
            int reached = p;
            for (int steps = 1; steps <= count; steps++) {
                reached = identityOf(reached);
                if (reached == p) {
                    return steps;
                }
            }
            return NONE;
        }

        int countInRings() {
            int found = 0;
            for (int p = 0; p < count; p++) {
                if (stepsBackTo(p) > 1) {
                    found++;
                }
            }
            return found;
        }

        int countAstray() {
            int found = 0;
            for (int p = 0; p < count; p++) {
                if (identityOf(p) != p) {
                    found++;
                }
            }
            return found;
        }

        int countAstrayAndKnown() {
            int found = 0;
            for (int p = 0; p < count; p++) {
                if (identityOf(p) != p && knowersOf(p) != 0) {
                    found++;
                }
            }
            return found;
        }

        boolean isFaded(int w, int p) {
            return knows(w, p) && Eyes.apart(memoryOf(w, p), marksOf(p)) >= FADED_APART;
        }

        /** The i-th pair that is lost; how many there are for NONE, which no pair's place is. */
        int fadedPair(int i) {
            int found = 0;
            for (int w = 0; w < count; w++) {
                for (int p = 0; p < count; p++) {
                    if (isFaded(w, p)) {
                        if (found == i) {
                            return PAIR_BASE * w + p;
                        }
                        found++;
                    }
                }
            }
            return i == NONE ? found : NONE;
        }

        int firstTwins() {
            for (int p = 0; p < count; p++) {
                for (int q = p + 1; q < count; q++) {
                    if (marksOf(p) == marksOf(q)) {
                        return PAIR_BASE * p + q;
                    }
                }
            }
            return NONE;
        }
    }

    /** How one who remembers MARKS (memory) looks along one row. */
    private static final class Eyes {
        static int apart(int some, int others) {
            return Integer.bitCount(some ^ others);
        }

        static int apartOf(People people, int memory, int p) {
            return apart(memory, people.marksOf(p));
        }

        static int pick(People people, int memory, int row) {
            int picked = NONE;
            int least = MARK_KINDS + 1;
            for (int q = 0; q < people.count; q++) {
                if (hasBit(row, q) && apartOf(people, memory, q) < least) {
                    least = apartOf(people, memory, q);
                    picked = q;
                }
            }
            return picked;
        }

        static int sureness(People people, int memory, int row, int p) {
            int rival = pick(people, memory, row & ~(1 << p));
            return lead(people, memory, p, people.marksOf(p), rival);
        }

        /** SURE of one with such marks against the best of all others; with it marks can be tried on. */
        static int lead(People people, int memory, int p, int itsMarks, int rival) {
            int own = apart(memory, itsMarks);
            int rivals = apartOf(people, memory, rival);
            boolean picked = own < rivals || own == rivals && p < rival;
            return picked ? 1 + rivals - own : 0;
        }

        static int oddsOf(People people, int memory, int row, int x) {
            int whole = 0;
            for (int q = 0; q < people.count; q++) {
                whole += weightIn(people, memory, row, q);
            }
            return whole > 0 ? weightIn(people, memory, row, x) * MILLION / whole : 0;
        }

        private static int weightIn(People people, int memory, int row, int q) {
            return hasBit(row, q) ? FULL_WEIGHT - apartOf(people, memory, q) : 0;
        }

        static int spread(People people, int memory, int row) {
            int least = MARK_KINDS;
            int most = 0;
            for (int q = 0; q < people.count; q++) {
                if (hasBit(row, q)) {
                    least = Math.min(least, apartOf(people, memory, q));
                    most = Math.max(most, apartOf(people, memory, q));
                }
            }
            return most - least;
        }
    }

    /** Searches through all rows, or all marks to take on: rising, so that of like ones the least is found first. */
    private static final class Rows {
        static int surest(People people, int w, int p, int n) {
            int memory = people.memoryOf(w, p);
            int best = NONE;
            int most = 0;
            int last = people.everybody();
            for (int row = 0; row <= last; row++) {
                if (isRowWith(row, w, p, n)) {
                    int sureness = Eyes.sureness(people, memory, row, p);
                    if (sureness > most) {
                        most = sureness;
                        best = row;
                    }
                }
            }
            return best;
        }

        static int surestWitness(People people, int p, int row) {
            int best = NONE;
            int most = 0;
            for (int w = 0; w < people.count; w++) {
                if (people.knows(w, p) && !hasBit(row, w)) {
                    int sureness = Eyes.sureness(people, people.memoryOf(w, p), row, p);
                    if (sureness > most) {
                        most = sureness;
                        best = w;
                    }
                }
            }
            return best;
        }

        static int fewestMarks(People people, int memory, int row, int x, int enough) {
            int rival = Eyes.pick(people, memory, row & ~(1 << x));
            int best = NONE;
            int fewest = MARK_KINDS + 1;
            for (int set = 0; set <= MOST_MARKS; set++) {
                int marks = Integer.bitCount(set);
                if (marks < fewest && Eyes.lead(people, memory, x, people.marksOf(x) ^ set, rival) >= enough) {
                    fewest = marks;
                    best = set;
                }
            }
            return best;
        }

        static int countPicking(People people, int memory, int w, int x, int n) {
            int found = 0;
            int last = people.everybody();
            for (int row = 0; row <= last; row++) {
                if (isRowWith(row, w, x, n) && Eyes.pick(people, memory, row) == x) {
                    found++;
                }
            }
            return found;
        }

        static int leastPicking(People people, int memory, int w, int x, int n) {
            int last = people.everybody();
            for (int row = 0; row <= last; row++) {
                if (isRowWith(row, w, x, n) && Eyes.pick(people, memory, row) == x) {
                    return row;
                }
            }
            return NONE;
        }

        static int widest(People people, int memory, int w) {
            int best = NONE;
            int most = NONE;
            int last = people.everybody();
            for (int row = 0; row <= last; row++) {
                if (isRowOf(row, w, SHOWN_NEXT)) {
                    int spread = Eyes.spread(people, memory, row);
                    if (spread > most) {
                        most = spread;
                        best = row;
                    }
                }
            }
            return best;
        }

        private static boolean isRowOf(int row, int w, int n) {
            return Integer.bitCount(row) == n && !hasBit(row, w);
        }

        private static boolean isRowWith(int row, int w, int x, int n) {
            return isRowOf(row, w, n) && hasBit(row, x);
        }
    }

    /** THE TEXT as it is fed, and the reading of it up to its first fault. */
    private static final class Text {
        private final int[] letters;
        private int length;
        private int faultPlace;
        private int faultNumber;
        private int at;
        private int numberPlace;

        Text() {
            letters = new int[MOST_LETTERS];
            faultPlace = NONE;
        }

        boolean hasRoom() {
            return length < MOST_LETTERS;
        }

        int append(int letter) {
            if (isWithin(length, 0, MOST_LETTERS - 1)) {
                letters[length] = letter;
                length++;
            }
            return length;
        }

        void empty() {
            length = 0;
        }

        /** The number of the first fault, or 0 if people are now as the text tells. */
        int tellInto(People people) {
            people.empty();
            at = 0;
            faultNumber = 0;
            faultPlace = NONE;
            skipBlanks();
            for (int clauses = 0; clauses < MOST_LETTERS && at < length && faultNumber == 0; clauses++) {
                readClause(people);
                skipBlanks();
            }
            return faultNumber;
        }

        private void readClause(People people) {
            int word = letterHere();
            if (word == 'p') {
                readPerson(people);
            } else if (word == 'k') {
                readAcquaintance(people);
            } else {
                blame(FAULT_STANDS_WRONG, at);
            }
        }

        private void readPerson(People people) {
            if (people.count >= MOST_PERSONS) {
                blame(FAULT_NINTH, at);
            }
            at++;
            int itsMarks = readNumber(MOST_MARKS);
            int itsChanges = readNumber(MOST_CHANGES);
            readEndOfClause();
            if (faultNumber == 0) {
                people.add(itsMarks, itsChanges);
            }
        }

        private void readAcquaintance(People people) {
            at++;
            int w = readNumber(people.count - 1);
            int p = readNumber(people.count - 1);
            if (p == w || people.knows(w, p)) {
                blame(FAULT_PAIR, numberPlace);
            }
            readEndOfClause();
            if (faultNumber == 0) {
                people.learn(w, p);
            }
        }

        private int readNumber(int most) {
            skipBlanks();
            numberPlace = at;
            int figures = 0;
            int value = 0;
            while (at < length && isFigure(letterHere())) {
                if (figures < MOST_FIGURES) {
                    value = value * 10 + letterHere() - '0';
                }
                figures++;
                at++;
            }
            if (figures == 0) {
                blame(FAULT_STANDS_WRONG, numberPlace);
            } else if (figures > MOST_FIGURES || value > most) {
                blame(FAULT_NUMBER, numberPlace);
            }
            return value;
        }

        private void readEndOfClause() {
            skipBlanks();
            if (letterHere() != ';') {
                blame(FAULT_STANDS_WRONG, at);
            }
            at++;
        }

        private void skipBlanks() {
            while (at < length && letterHere() == ' ') {
                at++;
            }
        }

        private int letterHere() {
            return at >= 0 && at < length && at < MOST_LETTERS ? letters[at] : NONE;
        }

        private static boolean isFigure(int letter) {
            return isWithin(letter, '0', '9');
        }

        /** Reading goes from left to right, so the first blame is the one that counts. */
        private void blame(int number, int place) {
            if (faultNumber == 0) {
                faultNumber = number;
                faultPlace = place;
            }
        }
    }

    /** What undo brings back: a circle of states, so that the oldest give way. */
    private static final class Past {
        private final People[] states;
        private int next;
        private int count;

        Past() {
            states = new People[MOST_UNDONE];
            for (int i = 0; i < MOST_UNDONE; i++) {
                states[i] = new People();
            }
        }

        void empty() {
            count = 0;
        }

        void push(People people) {
            People state = stateAt(next);
            if (state != null) {
                state.become(people);
                next = (next + 1) % MOST_UNDONE;
                count = Math.min(count + 1, MOST_UNDONE);
            }
        }

        boolean popInto(People people) {
            int latest = (next + MOST_UNDONE - 1) % MOST_UNDONE;
            People state = stateAt(latest);
            if (count == 0 || state == null) {
                return false;
            }
            people.become(state);
            next = latest;
            count--;
            return true;
        }

        private People stateAt(int i) {
            return isWithin(i, 0, MOST_UNDONE - 1) ? states[i] : null;
        }
    }

    /** What is SEEN: who picked whom, out of which row, as whom. */
    private static final class Sightings {
        private final int[] witnesses;
        private final int[] sought;
        private final int[] rows;
        private final int[] picked;
        private int count;

        Sightings() {
            witnesses = new int[MOST_SEEN];
            sought = new int[MOST_SEEN];
            rows = new int[MOST_SEEN];
            picked = new int[MOST_SEEN];
        }

        void empty() {
            count = 0;
        }

        boolean hasRoom() {
            return count < MOST_SEEN;
        }

        int add(int w, int p, int row, int x) {
            if (isWithin(count, 0, MOST_SEEN - 1)) {
                witnesses[count] = w;
                sought[count] = p;
                rows[count] = row;
                picked[count] = x;
                count++;
            }
            return count;
        }

        int countOtherwise(People people, int w) {
            int found = 0;
            for (int i = 0; i < count && i < MOST_SEEN; i++) {
                if (witnesses[i] == w && picked[i] != pickNow(people, w, sought[i], rows[i])) {
                    found++;
                }
            }
            return found;
        }

        private static int pickNow(People people, int w, int p, int row) {
            return people.knows(w, p) ? Eyes.pick(people, people.memoryOf(w, p), row) : NONE;
        }
    }

    /** THE BOOK: who persons are said to be. */
    private static final class Book {
        private final int[] persons;
        private final int[] identities;
        private int count;

        Book() {
            persons = new int[MOST_ENTRIES];
            identities = new int[MOST_ENTRIES];
        }

        void empty() {
            count = 0;
        }

        boolean hasRoom() {
            return count < MOST_ENTRIES;
        }

        int add(int p, int who) {
            if (isWithin(count, 0, MOST_ENTRIES - 1)) {
                persons[count] = p;
                identities[count] = who;
                count++;
            }
            return count;
        }

        int firstWrong(People people) {
            for (int i = 0; i < count && i < MOST_ENTRIES; i++) {
                if (people.identityOf(persons[i]) != identities[i]) {
                    return i;
                }
            }
            return NONE;
        }
    }

    /** THE SEED and the draws from it. */
    private static final class Draws {
        private static final int FACTOR = 1103515245;
        private static final int SUMMAND = 12345;
        private static final int DIVISOR = 65536;
        private static final int LOW_31_BITS = 2147483647;

        private int state;

        /** Java's wrap-around keeps the low 31 bits right. */
        int drawOf(int n) {
            state = state * FACTOR + SUMMAND & LOW_31_BITS;
            return n > 0 ? state / DIVISOR % n : 0;
        }
    }

    /** One of the two IMAGES. */
    private static final class Image {
        private final People people;
        private int state;
        private boolean kept;

        Image() {
            people = new People();
        }

        void take(People other, int seedNow) {
            people.become(other);
            state = seedNow;
            kept = true;
        }

        void drop() {
            kept = false;
        }
    }
}
