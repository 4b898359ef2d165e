/** Promises 26 to 32: what is seen, whose nods are bought, which row to show next, the book. */
public final class SeenTest {
    private SeenTest() {
    }

    public static void main(String[] args) {
        seeing();
        refusedSights();
        nodsAndHonesty();
        nodsAsAllIsNow();
        rowsToShow();
        refusedShows();
        writing();
        tearing();
        judging();
        Due.end("SeenTest");
    }

    private static ParadeRow steps() {
        return Due.placed(DoneTest.STEPS);
    }

    private static void seeing() {
        ParadeRow x = steps();
        for (int i = 1; i <= 8; i++) {
            Due.is("26: see()", x.see(4, 2, 15, i % 4), i);
        }
        Due.is("26: told(6)", x.told(6), 8);
        Due.is("26: told(8)", x.told(8), 0);
        Due.is("26: person(1, 2) unchanged", x.person(1, 2), 1);
        Due.is("26: see() of a ninth", x.see(4, 2, 15, 1), Due.FULL);
        Due.is("26: see() of a ninth by one who does not know", x.see(2, 4, 11, 1), Due.NOT);
        Due.is("26: see() of a ninth not in the row", x.see(4, 2, 11, 2), Due.OUTSIDE);
        Due.is("26: see() of a ninth of none", x.see(4, 2, 15, 5), Due.UNKNOWN);
        Due.is("26: told(6) still", x.told(6), 8);
        Due.is("26: X like P", steps().see(4, 2, 15, 2), 1);
        Due.is("26: P not in the row", steps().see(4, 2, 9, 3), 1);
    }

    private static void refusedSights() {
        Due.refused("26: W like P", SeenTest::steps, y -> y.see(2, 2, 9, 3), Due.UNKNOWN);
        Due.refused("26: no W", SeenTest::steps, y -> y.see(5, 2, 9, 3), Due.UNKNOWN);
        Due.refused("26: no P", SeenTest::steps, y -> y.see(4, 5, 9, 3), Due.UNKNOWN);
        Due.refused("26: no X", SeenTest::steps, y -> y.see(4, 2, 9, 5), Due.UNKNOWN);
        Due.refused("26: X below 0", SeenTest::steps, y -> y.see(4, 2, 9, -1), Due.UNKNOWN);
        Due.refused("26: W below 0", SeenTest::steps, y -> y.see(-1, 2, 9, 3), Due.UNKNOWN);
        Due.refused("26: bits of none", SeenTest::steps, y -> y.see(4, 2, 41, 3), Due.UNKNOWN);
        Due.refused("26: bits of W", SeenTest::steps, y -> y.see(4, 2, 25, 3), Due.UNKNOWN);
        Due.refused("26: a row below 0", SeenTest::steps, y -> y.see(4, 2, -1, 3), Due.UNKNOWN);
        Due.refused("26: one in the row", SeenTest::steps, y -> y.see(4, 2, 8, 3), Due.OUTSIDE);
        Due.refused("26: X not in the row", SeenTest::steps, y -> y.see(4, 2, 9, 1), Due.OUTSIDE);
        Due.refused("26: X like W, who is not in the row", SeenTest::steps, y -> y.see(4, 2, 9, 4), Due.OUTSIDE);
        Due.refused("26: W does not know P", SeenTest::steps, y -> y.see(2, 4, 9, 3), Due.NOT);
        Due.refused("26: nor is X in the row", SeenTest::steps, y -> y.see(2, 4, 9, 1), Due.OUTSIDE);
    }

    private static void nodsAndHonesty() {
        ParadeRow x = steps();
        Due.is("27: honest(), nothing seen", x.honest(), 31);
        Due.is("28: nods(4), nothing seen", x.nods(4), 0);
        x.see(4, 2, 15, 2);
        Due.is("28: nods(4), as he would", x.nods(4), 0);
        x.see(4, 2, 15, 0);
        x.see(4, 2, 9, 0);
        x.see(4, 2, 9, 3);
        x.see(0, 2, 10, 1);
        x.see(0, 2, 10, 3);
        x.see(1, 0, 20, 2);
        Due.is("28: nods(4)", x.nods(4), 2);
        Due.is("28: nods(0), like ones", x.nods(0), 1);
        Due.is("28: nods(1)", x.nods(1), 0);
        Due.is("28: nods(2)", x.nods(2), 0);
        Due.is("27: honest()", x.honest(), 14);
        Due.refused("28: nods(5)", SeenTest::steps, y -> y.nods(5), Due.UNKNOWN);
        Due.refused("28: nods(-1)", SeenTest::steps, y -> y.nods(-1), Due.UNKNOWN);
        Due.refused("28: nods(0) of nobody", ParadeRow::new, y -> y.nods(0), Due.UNKNOWN);
    }

    private static void nodsAsAllIsNow() {
        ParadeRow x = steps();
        x.see(4, 2, 6, 2);
        x.see(4, 2, 6, 1);
        Due.is("28: nods(4)", x.nods(4), 1);
        Due.is("28: mark(2, 2), like ones then", x.mark(2, 2), 7);
        Due.is("28: nods(4), now of the other", x.nods(4), 1);
        x.see(4, 2, 6, 1);
        Due.is("28: nods(4) still", x.nods(4), 1);
        x.meet(4, 2);
        Due.is("28: nods(4), met", x.nods(4), 2);
        x.forget(4, 2);
        Due.is("28: nods(4), forgotten", x.nods(4), 3);
        Due.is("27: honest(), forgotten", x.honest(), 15);
        x.undo();
        x.undo();
        Due.is("28: nods(4), undone", x.nods(4), 1);
    }

    private static void rowsToShow() {
        Due.is("29: showNext(4, 2)", steps().showNext(4, 2), 7);
        Due.is("29: showNext(0, 2)", steps().showNext(0, 2), 22);
        ParadeRow x = Due.placed("p0 0;p1 0;p3 0;p7 0;p15 0;k0 3;");
        x.mark(3, 0);
        Due.is("29: showNext(0, 3), like ones", x.showNext(0, 3), 14);
        x.mark(4, 7);
        x.mark(4, 6);
        Due.is("29: showNext(0, 3), without P", x.showNext(0, 3), 22);
        Due.is("29: two others", Due.placed("p0 0;p1 0;p3 0;k0 1;").showNext(0, 1), Due.NONE);
        Due.is("29: three alike", Due.placed("p5 0;p5 0;p5 0;p5 0;k1 3;").showNext(1, 3), 13);
        Due.is("29: a little is more than nothing", Due.placed("p0 0;p5 0;p5 0;p5 0;p4 0;k0 1;").showNext(0, 1), 22);
        Due.is("29: 0 is far", Due.placed("p255 0;p0 0;p0 0;p0 0;p1 0;k3 1;").showNext(3, 1), 7);
        Due.is("29: all apart", Due.placed("p255 0;p0 0;p255 0;p255 0;p255 0;k0 1;").showNext(0, 1), 14);
        Due.is("29: told(8)", x.told(8), 3);
    }

    private static void refusedShows() {
        Due.refused("29: W like P", SeenTest::steps, y -> y.showNext(2, 2), Due.UNKNOWN);
        Due.refused("29: no W", SeenTest::steps, y -> y.showNext(5, 2), Due.UNKNOWN);
        Due.refused("29: no P", SeenTest::steps, y -> y.showNext(4, 5), Due.UNKNOWN);
        Due.refused("29: W below 0", SeenTest::steps, y -> y.showNext(-1, 2), Due.UNKNOWN);
        Due.refused("29: P below 0", SeenTest::steps, y -> y.showNext(4, -1), Due.UNKNOWN);
        Due.refused("29: W does not know P", SeenTest::steps, y -> y.showNext(2, 4), Due.NOT);
    }

    private static void writing() {
        ParadeRow x = steps();
        for (int i = 1; i <= 15; i++) {
            Due.is("30: write()", x.write(i % 5, i % 3), i);
        }
        Due.is("30: write() of a sixteenth", x.write(0, 0), Due.FULL);
        Due.is("30: write() of a sixteenth of none", x.write(5, 0), Due.UNKNOWN);
        Due.is("30: told(7)", x.told(7), 15);
        Due.is("30: told(8)", x.told(8), 0);
        Due.refused("30: write(5, 0)", SeenTest::steps, y -> y.write(5, 0), Due.UNKNOWN);
        Due.refused("30: write(0, 5)", SeenTest::steps, y -> y.write(0, 5), Due.UNKNOWN);
        Due.refused("30: write(-1, 0)", SeenTest::steps, y -> y.write(-1, 0), Due.UNKNOWN);
        Due.refused("30: write(0, -1)", SeenTest::steps, y -> y.write(0, -1), Due.UNKNOWN);
        Due.is("30: P like who", steps().write(3, 3), 1);
    }

    private static void tearing() {
        ParadeRow x = steps();
        Due.is("31: tear() of nothing", x.tear(), 0);
        x.see(4, 2, 15, 0);
        x.see(4, 2, 15, 1);
        x.write(0, 1);
        x.write(0, 1);
        x.write(0, 1);
        Due.is("31: nods(4)", x.nods(4), 2);
        Due.is("31: judge()", x.judge(), 0);
        Due.is("31: tear()", x.tear(), 5);
        Due.is("31: told(6)", x.told(6), 0);
        Due.is("31: told(7)", x.told(7), 0);
        Due.is("31: nods(4) behind it", x.nods(4), 0);
        Due.is("31: honest() behind it", x.honest(), 31);
        Due.is("31: judge() behind it", x.judge(), Due.NONE);
        Due.is("31: tear() again", x.tear(), 0);
        Due.is("31: see() again", x.see(4, 2, 15, 1), 1);
        Due.is("31: write() again", x.write(1, 1), 1);
    }

    private static void judging() {
        ParadeRow x = steps();
        Due.is("32: judge() of no book", x.judge(), Due.NONE);
        x.write(0, 0);
        x.write(3, 3);
        x.write(1, 1);
        Due.is("32: judge(), all right", x.judge(), Due.NONE);
        x.write(2, 4);
        Due.is("32: judge(), the fourth", x.judge(), 3);
        Due.is("32: parade of 1 and 3", x.parade(4, 2, 10), 1);
        Due.is("32: judge(), the third", x.judge(), 2);
        Due.is("32: parade of 0 and 3", x.parade(4, 2, 9), 3);
        Due.is("32: judge(), the second", x.judge(), 1);
        x.undo();
        Due.is("32: judge(), the third again", x.judge(), 2);
        x.undo();
        Due.is("32: judge(), the fourth again", x.judge(), 3);
        x.write(2, 2);
        Due.is("32: judge(), the fourth still", x.judge(), 3);
    }
}
