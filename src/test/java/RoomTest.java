import com.sun.management.ThreadMXBean;
import java.lang.management.ManagementFactory;

/** All calls of a run live in one room: an object takes its room when it is made, and its calls take none. */
public final class RoomTest {
    private static final long MOST_BYTES_OF_AN_OBJECT = 32768;

    private static final ThreadMXBean BOOKS = (ThreadMXBean) ManagementFactory.getThreadMXBean();

    private RoomTest() {
    }

    private static long bytes() {
        return BOOKS.getCurrentThreadAllocatedBytes();
    }

    public static void main(String[] args) {
        everyCall(Due.placed(DoneTest.STEPS));
        long before = bytes();
        ParadeRow x = new ParadeRow();
        long made = bytes() - before;
        Due.is("bytes of an object, " + made, made <= MOST_BYTES_OF_AN_OBJECT ? 1 : 0, 1);
        Due.feed(x, DoneTest.STEPS);
        x.place();
        Due.is("bytes of calls", leastOfRounds(x), 0);
        Due.end("RoomTest");
    }

    /** The machine takes a little now and then for itself; what the calls take would be taken in each round. */
    private static long leastOfRounds(ParadeRow x) {
        long least = Long.MAX_VALUE;
        for (int i = 0; i < 9; i++) {
            long before = bytes();
            everyCall(x);
            least = Math.min(least, bytes() - before);
        }
        return least;
    }

    private static int everyCall(ParadeRow x) {
        int sum = x.told(3) + x.told(4) + x.told(5) + x.person(2, 3) + x.person(2, 4) + x.remembers(4, 2) + x.fault();
        sum += x.year(2) + x.meet(3, 4) + x.parade(4, 2, 10) + x.mark(2, 5) + x.drift(3) + x.forget(3, 4) + x.undo();
        sum += x.sure(4, 2, 13) + x.bestRow(4, 2, 3) + x.odds(4, 2, 15, 1) + x.ask(2, 12) + x.ring(1) + x.rings(0);
        sum += x.mask(4, 2, 13, 2) + x.spoil(4, 2, 13, 0) + x.impostor(4, 2, 1, 2, 0) + x.impostor(4, 2, 1, 2, 1);
        sum += x.lost(-1) + x.lost(0) + x.alike(60) + x.see(4, 2, 15, 1) + x.honest() + x.nods(4) + x.showNext(4, 2);
        sum += x.write(1, 2) + x.judge() + x.seed(5) + x.keep(0) + x.goBack(0) + x.goBack(1) + x.keep(7);
        sum += x.year(0) + x.parade(9, 9, 9) + x.undo() + x.feed(65) + x.feed(-1);
        return sum;
    }
}
