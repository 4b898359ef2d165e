import java.util.ArrayList;
import java.util.List;

/**
 * All that can be found out of an object: what is so, all states that can be undone, both images, the seeds, and
 * the text, by making it the place at the end. The object is used up by it.
 */
final class Picture {
    private static final int MOST_UNDONE = 20;

    private Picture() {
    }

    static List<Integer> of(ParadeRow x) {
        List<Integer> all = Due.seen(x);
        all.add(x.seed(0));
        for (int i = 0; i < MOST_UNDONE && x.told(8) > 0; i++) {
            all.add(x.undo());
            addPeople(all, x);
        }
        for (int i = 0; i < 2; i++) {
            int answer = x.goBack(i);
            all.add(answer);
            if (answer == 1) {
                all.add(x.seed(0));
                addPeople(all, x);
            }
        }
        all.add(x.tear());
        all.add(x.place());
        all.add(x.fault());
        addPeople(all, x);
        return all;
    }

    /** Section 2, without what can be worked out of the rest. */
    private static void addPeople(List<Integer> all, ParadeRow x) {
        int persons = x.told(0);
        all.add(persons);
        all.add(x.told(2));
        for (int p = 0; p < persons; p++) {
            all.add(x.person(p, 0));
            all.add(x.person(p, 1));
            all.add(x.person(p, 2));
            for (int q = 0; q < persons; q++) {
                all.add(p == q ? Due.NONE : x.remembers(p, q));
            }
        }
    }
}
