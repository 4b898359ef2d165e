import java.util.List;
import java.util.function.Consumer;

/** Promises 8 to 14: years, meetings, parades, marks, drifting, undoing. */
public final class DoneTest {
    /** Marks 0, 1, 3, 7, 15: APART of two is how far their numbers are from one another. */
    static final String STEPS = "p0 0;p1 0;p3 0;p7 0;p15 0;k4 2;k0 2;k1 0;k3 2;";
    private static final String CHANGING = "p0 1;p0 0;p0 3;";

    private DoneTest() {
    }

    public static void main(String[] args) {
        years();
        refusedYears();
        lastYears();
        meetings();
        forgetting();
        parades();
        refusedParades();
        marks();
        drifting();
        driftingAlone();
        refusedDrifts();
        undoing();
        undoingTwenty();
        whatCanBeUndone();
        Due.end("DoneTest");
    }

    private static ParadeRow steps() {
        return Due.placed(STEPS);
    }

    private static void years() {
        ParadeRow x = Due.placed(CHANGING);
        Due.is("8: year(1)", x.year(1), 1);
        Due.is("8: person(0, 0), mark 0", x.person(0, 0), 1);
        Due.is("8: person(1, 0), no changes", x.person(1, 0), 0);
        Due.is("8: person(2, 0), mark 2", x.person(2, 0), 4);
        Due.is("8: year(2)", x.year(2), 3);
        Due.is("8: person(0, 0), marks 1 and 2", x.person(0, 0), 7);
        Due.is("8: person(2, 0), marks 5 and 0", x.person(2, 0), 37);
        Due.is("8: year(5)", x.year(5), 8);
        Due.is("8: person(0, 0), all marks", x.person(0, 0), 255);
        Due.is("8: year(7)", x.year(7), 15);
        Due.is("8: person(0, 0), lost but one", x.person(0, 0), 128);
        Due.is("8: year(60)", x.year(60), 75);
        Due.is("8: person(1, 0) still", x.person(1, 0), 0);
        Due.is("8: told(2)", x.told(2), 75);
        Due.is("8: told(8)", x.told(8), 5);
    }

    private static void refusedYears() {
        Due.refused("8: year(0)", DoneTest::steps, y -> y.year(0), Due.OUTSIDE);
        Due.refused("8: year(61)", DoneTest::steps, y -> y.year(61), Due.OUTSIDE);
        Due.refused("8: year(-1)", DoneTest::steps, y -> y.year(-1), Due.OUTSIDE);
        Due.refused("8: year(MIN)", DoneTest::steps, y -> y.year(Integer.MIN_VALUE), Due.OUTSIDE);
        Due.refused("8: year(1) of nobody", ParadeRow::new, y -> y.year(1), Due.NOT);
        Due.refused("8: year(0) of nobody", ParadeRow::new, y -> y.year(0), Due.OUTSIDE);
    }

    private static ParadeRow old(int more) {
        ParadeRow x = Due.placed(CHANGING);
        for (int i = 0; i < 150; i++) {
            x.year(60);
        }
        if (more > 0) {
            x.year(more);
        }
        return x;
    }

    private static void lastYears() {
        Due.is("8: told(2) of old", old(0).told(2), 9000);
        Due.is("8: year(60) at 9000", old(0).year(60), 9060);
        Due.is("8: year(1) at 9000", old(0).year(1), 9001);
        Due.is("13: drift(60) at 9000", old(0).drift(60), 9060);
        Due.refused("8: year(1) at 9001", () -> old(1), y -> y.year(1), Due.FULL);
        Due.refused("8: year(1) at 9060", () -> old(60), y -> y.year(1), Due.FULL);
        Due.refused("8: year(61) at 9001", () -> old(1), y -> y.year(61), Due.OUTSIDE);
        Due.refused("13: drift(1) at 9001", () -> old(1), y -> y.drift(1), Due.FULL);
        Due.refused("13: drift(0) at 9001", () -> old(1), y -> y.drift(0), Due.OUTSIDE);
        ParadeRow x = old(60);
        Due.is("14: undo() at 9060", x.undo(), 19);
        Due.is("8: year(1) behind it", x.year(1), 9001);
        Due.is("25: alike(60) above 9000", x.alike(60), Due.NONE);
    }

    private static void meetings() {
        ParadeRow x = steps();
        Due.is("9: meet(4, 2), unchanged", x.meet(4, 2), 0);
        x.mark(2, 7);
        x.mark(2, 6);
        Due.is("9: meet(4, 2), 2 marks", x.meet(4, 2), 2);
        Due.is("9: remembers(4, 2)", x.remembers(4, 2), 195);
        Due.is("9: remembers(0, 2)", x.remembers(0, 2), 3);
        Due.is("9: meet(2, 4), unknown", x.meet(2, 4), Due.NONE);
        Due.is("9: remembers(2, 4)", x.remembers(2, 4), 15);
        Due.is("9: remembers(4, 2) still", x.remembers(4, 2), 195);
        Due.is("9: told(5)", x.told(5), 5);
        Due.is("9: told(8)", x.told(8), 5);
        Due.is("9: undo()", x.undo(), 4);
        Due.is("9: remembers(2, 4) undone", x.remembers(2, 4), Due.NONE);
        Due.is("9: meet(2, 0), no marks", x.meet(2, 0), Due.NONE);
        Due.is("9: meet(2, 0) again", x.meet(2, 0), 0);
        Due.refused("9: meet(0, 0)", DoneTest::steps, y -> y.meet(0, 0), Due.UNKNOWN);
        Due.refused("9: meet(5, 0)", DoneTest::steps, y -> y.meet(5, 0), Due.UNKNOWN);
        Due.refused("9: meet(0, 5)", DoneTest::steps, y -> y.meet(0, 5), Due.UNKNOWN);
        Due.refused("9: meet(-1, 0)", DoneTest::steps, y -> y.meet(-1, 0), Due.UNKNOWN);
        Due.refused("9: meet(0, -1)", DoneTest::steps, y -> y.meet(0, -1), Due.UNKNOWN);
    }

    private static void forgetting() {
        ParadeRow x = steps();
        x.mark(2, 7);
        Due.is("10: forget(4, 2)", x.forget(4, 2), 3);
        Due.is("10: remembers(4, 2)", x.remembers(4, 2), Due.NONE);
        Due.is("10: person(2, 4)", x.person(2, 4), 9);
        Due.is("10: person(4, 3)", x.person(4, 3), 0);
        Due.is("10: told(5)", x.told(5), 3);
        Due.is("10: forget(4, 2) again", x.forget(4, 2), Due.NOT);
        Due.is("10: told(8)", x.told(8), 2);
        Due.is("10: forget(1, 0), no marks", x.forget(1, 0), 0);
        Due.is("10: meet(4, 2) behind it", x.meet(4, 2), Due.NONE);
        Due.is("10: forget(4, 2) as met", x.forget(4, 2), 131);
        Due.refused("10: forget(2, 4)", DoneTest::steps, y -> y.forget(2, 4), Due.NOT);
        Due.refused("10: forget(2, 2)", DoneTest::steps, y -> y.forget(2, 2), Due.UNKNOWN);
        Due.refused("10: forget(5, 2)", DoneTest::steps, y -> y.forget(5, 2), Due.UNKNOWN);
        Due.refused("10: forget(2, 5)", DoneTest::steps, y -> y.forget(2, 5), Due.UNKNOWN);
        Due.refused("10: forget(-1, 2)", DoneTest::steps, y -> y.forget(-1, 2), Due.UNKNOWN);
        Due.refused("10: forget(2, -1)", DoneTest::steps, y -> y.forget(2, -1), Due.UNKNOWN);
    }

    private static void parades() {
        ParadeRow x = steps();
        Due.is("11: parade(4, 2, all)", x.parade(4, 2, 15), 2);
        Due.is("11: person(2, 2)", x.person(2, 2), 2);
        Due.is("11: parade(4, 2, 0 and 3)", x.parade(4, 2, 9), 3);
        Due.is("11: person(3, 2)", x.person(3, 2), 2);
        Due.is("11: person(2, 2) still", x.person(2, 2), 2);
        Due.is("11: parade(4, 2, 1 and 3), like ones", x.parade(4, 2, 10), 1);
        Due.is("11: person(1, 2)", x.person(1, 2), 2);
        Due.is("11: parade(1, 0, 2 and 4), without P", x.parade(1, 0, 20), 2);
        Due.is("11: person(2, 2), another one now", x.person(2, 2), 0);
        Due.is("11: person(0, 2)", x.person(0, 2), 0);
        Due.is("11: told(8)", x.told(8), 4);
        Due.is("11: remembers(4, 2) unchanged", x.remembers(4, 2), 3);
        Due.is("11: person(2, 0) unchanged", x.person(2, 0), 3);
        for (int k = 0; k < 8; k++) {
            x.mark(3, k);
        }
        Due.is("11: parade(4, 2, 0 and 3), 3 is far now", x.parade(4, 2, 9), 0);
        ParadeRow eight = Due.placed("p0 0;p1 0;p1 0;p1 0;p1 0;p1 0;p1 0;p0 0;k1 0;");
        Due.is("11: the last of eight", eight.parade(1, 0, 252), 7);
        Due.is("11: the last of eight is 0", eight.person(7, 2), 0);
    }

    private static void refusedParades() {
        Due.refused("11: parade(2, 2, 3)", DoneTest::steps, y -> y.parade(2, 2, 3), Due.UNKNOWN);
        Due.refused("11: parade(5, 2, 3)", DoneTest::steps, y -> y.parade(5, 2, 3), Due.UNKNOWN);
        Due.refused("11: parade(4, 5, 3)", DoneTest::steps, y -> y.parade(4, 5, 3), Due.UNKNOWN);
        Due.refused("11: parade(-1, 2, 3)", DoneTest::steps, y -> y.parade(-1, 2, 3), Due.UNKNOWN);
        Due.refused("11: parade(4, -1, 3)", DoneTest::steps, y -> y.parade(4, -1, 3), Due.UNKNOWN);
        Due.refused("11: bits of none", DoneTest::steps, y -> y.parade(4, 2, 32 + 3), Due.UNKNOWN);
        Due.refused("11: bits far off", DoneTest::steps, y -> y.parade(4, 2, 1 << 30 | 3), Due.UNKNOWN);
        Due.refused("11: a row below 0", DoneTest::steps, y -> y.parade(4, 2, Integer.MIN_VALUE), Due.UNKNOWN);
        Due.refused("11: W in the row", DoneTest::steps, y -> y.parade(4, 2, 16 + 3), Due.UNKNOWN);
        Due.refused("11: W alone in the row", DoneTest::steps, y -> y.parade(4, 2, 16), Due.UNKNOWN);
        Due.refused("11: an empty row", DoneTest::steps, y -> y.parade(4, 2, 0), Due.OUTSIDE);
        Due.refused("11: one in the row", DoneTest::steps, y -> y.parade(4, 2, 4), Due.OUTSIDE);
        Due.refused("11: W does not know P", DoneTest::steps, y -> y.parade(2, 4, 3), Due.NOT);
        Due.refused("11: and one in the row", DoneTest::steps, y -> y.parade(2, 4, 1), Due.OUTSIDE);
        Due.refused("11: and W in the row", DoneTest::steps, y -> y.parade(2, 4, 4), Due.UNKNOWN);
    }

    private static void marks() {
        ParadeRow x = steps();
        Due.is("12: mark(0, 7)", x.mark(0, 7), 128);
        Due.is("12: mark(0, 0)", x.mark(0, 0), 129);
        Due.is("12: mark(0, 7) lost", x.mark(0, 7), 1);
        Due.is("12: person(0, 0)", x.person(0, 0), 1);
        Due.is("12: person(1, 0) unchanged", x.person(1, 0), 1);
        Due.is("12: remembers(1, 0) unchanged", x.remembers(1, 0), 0);
        Due.is("12: told(8)", x.told(8), 3);
        Due.refused("12: mark(5, 0)", DoneTest::steps, y -> y.mark(5, 0), Due.UNKNOWN);
        Due.refused("12: mark(-1, 0)", DoneTest::steps, y -> y.mark(-1, 0), Due.UNKNOWN);
        Due.refused("12: mark(0, 8)", DoneTest::steps, y -> y.mark(0, 8), Due.OUTSIDE);
        Due.refused("12: mark(0, -1)", DoneTest::steps, y -> y.mark(0, -1), Due.OUTSIDE);
        Due.refused("12: mark(0, 32)", DoneTest::steps, y -> y.mark(0, 32), Due.OUTSIDE);
        Due.refused("12: mark(5, 8)", DoneTest::steps, y -> y.mark(5, 8), Due.UNKNOWN);
    }

    private static long next(long seed) {
        return (seed * 1103515245L + 12345L) % 2147483648L;
    }

    private static void drifting() {
        for (int v : new int[] {0, 1, 8, 123456789, Integer.MAX_VALUE}) {
            ParadeRow x = Due.placed("p1 1;p2 2;p4 3;");
            ParadeRow y = Due.placed("p1 1;p2 2;p4 3;");
            x.seed(v);
            long seed = v;
            for (int i = 0; i < 7; i++) {
                seed = next(seed);
                int first = (int) (seed / 65536 % 3);
                seed = next(seed);
                int second = (int) (seed / 65536 % 3);
                if (first != second) {
                    y.meet(first, second);
                }
                y.year(1);
            }
            Due.is("13: drift(7) from " + v, x.drift(7), 7);
            for (int p = 0; p < 3; p++) {
                for (int what = 0; what <= 4; what++) {
                    Due.is("13: person(" + p + ", " + what + ") from " + v, x.person(p, what), y.person(p, what));
                }
                for (int q = 0; q < 3; q++) {
                    Due.is("13: remembers(" + p + ", " + q + ") from " + v, x.remembers(p, q), y.remembers(p, q));
                }
            }
            Due.is("13: told(8) from " + v, x.told(8), 1);
            Due.is("13: undo() from " + v, x.undo(), 0);
            Due.is("13: told(2) undone", x.told(2), 0);
            Due.is("13: told(5) undone", x.told(5), 0);
            Due.is("13: seed stays from " + v, x.seed(0), seed);
        }
    }

    private static void driftingAlone() {
        ParadeRow x = Due.placed("p0 1;");
        Due.is("13: drift(2) alone", x.drift(2), 2);
        Due.is("13: person(0, 0) alone", x.person(0, 0), 3);
        Due.is("13: told(5) alone", x.told(5), 0);
        Due.is("13: four draws alone", x.seed(0), next(next(next(next(0)))));
    }

    private static void refusedDrifts() {
        Due.refused("13: drift(0)", DoneTest::steps, y -> y.drift(0), Due.OUTSIDE);
        Due.refused("13: drift(61)", DoneTest::steps, y -> y.drift(61), Due.OUTSIDE);
        Due.refused("13: drift(-5)", DoneTest::steps, y -> y.drift(-5), Due.OUTSIDE);
        Due.refused("13: drift(1) of nobody", ParadeRow::new, y -> y.drift(1), Due.NOT);
        Due.refused("13: drift(61) of nobody", ParadeRow::new, y -> y.drift(61), Due.OUTSIDE);
        Due.is("13: drift(60)", steps().drift(60), 60);
    }

    private static final List<Consumer<ParadeRow>> DEEDS = List.of(
        x -> x.year(3), x -> x.meet(2, 0), x -> x.forget(0, 1), x -> x.parade(1, 2, 5),
        x -> x.parade(2, 1, 3), x -> x.mark(2, 4), x -> x.drift(5));

    private static ParadeRow behindDeeds(int n) {
        ParadeRow x = Due.placed("p7 1;p6 2;p5 3;k0 1;k1 2;k2 1;");
        for (int i = 0; i < n; i++) {
            DEEDS.get(i).accept(x);
        }
        return x;
    }

    private static void undoing() {
        ParadeRow x = behindDeeds(DEEDS.size());
        for (int i = DEEDS.size() - 1; i >= 0; i--) {
            Due.is("14: undo(), " + i + " more", x.undo(), i);
            Due.same("14: as ahead of call " + i, Due.seen(x), Due.seen(behindDeeds(i)));
        }
        Due.is("14: undo() behind the last", x.undo(), Due.NOT);
        Due.refused("14: undo() of none", DoneTest::steps, ParadeRow::undo, Due.NOT);
    }

    private static void undoingTwenty() {
        ParadeRow x = Due.placed("p0 0;");
        for (int i = 0; i < 33; i++) {
            x.year(1);
            Due.is("14: told(8)", x.told(8), Math.min(i + 1, 20));
        }
        for (int i = 19; i >= 0; i--) {
            Due.is("14: undo()", x.undo(), i);
            Due.is("14: told(2)", x.told(2), 13 + i);
        }
        Due.is("14: undo(), the oldest are lost", x.undo(), Due.NOT);
        Due.is("14: told(2) stays", x.told(2), 13);
        x.year(2);
        Due.is("14: undo() of a new one", x.undo(), 0);
        Due.is("14: told(2) again", x.told(2), 13);
    }

    private static void whatCanBeUndone() {
        ParadeRow x = steps();
        x.mark(2, 7);
        x.see(4, 2, 9, 0);
        x.write(2, 1);
        x.seed(99);
        x.feed(65);
        x.sure(4, 2, 6);
        x.alike(3);
        x.tear();
        x.see(4, 2, 9, 3);
        x.meet(0, 0);
        x.year(0);
        Due.is("14: told(8), of mark() alone", x.told(8), 1);
        Due.is("14: undo()", x.undo(), 0);
        Due.is("14: person(2, 0)", x.person(2, 0), 3);
        Due.is("14: what is seen stays", x.told(6), 1);
        Due.is("14: the text stays", x.told(1), 1);
        Due.is("14: the seed stays", x.seed(0), 99);
    }
}
