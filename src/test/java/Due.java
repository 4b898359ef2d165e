import java.util.ArrayList;
import java.util.List;
import java.util.function.Supplier;
import java.util.function.ToIntFunction;

/** What the tests share: answers that are due, objects with a place told, and all that can be seen of an object. */
final class Due {
    static final int NONE = ParadeRow.NONE;
    static final int UNKNOWN = ParadeRow.UNKNOWN;
    static final int OUTSIDE = ParadeRow.OUTSIDE;
    static final int NOT = ParadeRow.NOT;
    static final int FULL = ParadeRow.FULL;

    private static int right = 0;
    private static int wrong = 0;
    private static String heading = "";

    private Due() {
    }

    /** What stands ahead of each answer that is told as wrong. */
    static void under(String newHeading) {
        heading = newHeading;
    }

    static int answers() {
        return right + wrong;
    }

    static void is(String call, long got, long want) {
        if (got == want) {
            right++;
        } else {
            wrong++;
            System.out.println(heading + call + " answered " + got + ", due is " + want);
        }
    }

    static void same(String what, Object got, Object want) {
        if (got.equals(want)) {
            right++;
        } else {
            wrong++;
            System.out.println(heading + what + ": " + got + ", due is " + want);
        }
    }

    /** The call is refused as told, and an object that was asked is in nothing unlike one that was not. */
    static void refused(String call, Supplier<ParadeRow> maker, ToIntFunction<ParadeRow> asked, int want) {
        ParadeRow x = maker.get();
        is(call, asked.applyAsInt(x), want);
        same("what is so behind the refused " + call, all(x), all(maker.get()));
    }

    static void feed(ParadeRow x, String text) {
        for (int i = 0; i < text.length(); i++) {
            x.feed(text.charAt(i));
        }
    }

    static ParadeRow placed(String text) {
        ParadeRow x = new ParadeRow();
        feed(x, text);
        int persons = x.place();
        if (persons < 0) {
            is("place() of " + text, persons, 0);
        }
        return x;
    }

    /** What can be seen without a change. */
    static List<Integer> seen(ParadeRow x) {
        List<Integer> all = new ArrayList<>();
        for (int what = 0; what <= 8; what++) {
            all.add(x.told(what));
        }
        int persons = x.told(0);
        for (int p = 0; p < persons; p++) {
            for (int what = 0; what <= 4; what++) {
                all.add(x.person(p, what));
            }
            for (int q = 0; q < persons; q++) {
                all.add(x.remembers(p, q));
            }
            all.add(x.nods(p));
        }
        all.add(x.fault());
        all.add(x.judge());
        return all;
    }

    /** All that can be seen, the seed, what can be undone and the images too; the object is used up by it. */
    static List<Integer> all(ParadeRow x) {
        List<Integer> all = seen(x);
        all.add(x.seed(0));
        for (int i = 0; i < 20; i++) {
            all.add(x.undo());
            addShort(all, x);
        }
        for (int i = 0; i < 2; i++) {
            all.add(x.goBack(i));
            addShort(all, x);
            all.add(x.seed(0));
        }
        return all;
    }

    private static void addShort(List<Integer> all, ParadeRow x) {
        all.add(x.told(2));
        all.add(x.told(5));
        for (int p = 0; p < Math.min(x.told(0), 3); p++) {
            all.add(x.person(p, 0));
            all.add(x.person(p, 2));
        }
    }

    static void end(String name) {
        System.out.println(name + ": " + right + " answers as due, " + wrong + " not");
        if (wrong != 0) {
            System.exit(1);
        }
    }
}
