import java.util.List;
import java.util.function.ToIntFunction;

/** Promises 15 to 25: what is tried from now and changes nothing. */
public final class TriedTest {
    /** Marks 0, 1, 3, 7, 15, all known by 4 but 3; 3 known by 0. */
    private static final String RINGS = "p0 0;p1 0;p3 0;p7 0;p15 0;k4 2;k4 1;k4 0;k0 3;";

    private TriedTest() {
    }

    public static void main(String[] args) {
        sureness();
        refusedSure();
        bestRows();
        refusedBestRows();
        oddsOfPicking();
        refusedOdds();
        whomToAsk();
        refusedAsking();
        ringsOfTwoAndThree();
        ringOfAll();
        selfAndAstray();
        refusedRings();
        masks();
        refusedMasks();
        spoiling();
        refusedSpoiling();
        impostors();
        refusedImpostors();
        lostFriends();
        alikePairs();
        nothingChanges();
        Due.end("TriedTest");
    }

    private static ParadeRow steps() {
        return Due.placed(DoneTest.STEPS);
    }

    private static ParadeRow stepsWith(int p, int... marks) {
        ParadeRow x = steps();
        for (int k : marks) {
            x.mark(p, k);
        }
        return x;
    }

    private static void sureness() {
        Due.is("15: of 2 and 3", steps().sure(4, 2, 12), 2);
        Due.is("15: of 0 and 2", steps().sure(4, 2, 5), 3);
        Due.is("15: of 0, 2, 3", steps().sure(4, 2, 13), 2);
        Due.is("15: of all", steps().sure(4, 2, 15), 2);
        Due.is("15: like ones, P is the least", stepsWith(2, 2).sure(4, 2, 12), 1);
        Due.is("15: like ones, another is the least", stepsWith(2, 2).sure(4, 2, 6), 0);
        Due.is("15: not picked by far", stepsWith(2, 4, 5, 6, 7).sure(4, 2, 5), 0);
        Due.is("15: most of all", Due.placed("p0 0;p255 0;p0 0;k2 0;").sure(2, 0, 3), 9);
    }

    private static void refusedSure() {
        refusedRow("15: sure", (w, p, row) -> y -> y.sure(w, p, row));
        Due.refused("15: P not in the row", TriedTest::steps, y -> y.sure(4, 2, 11), Due.OUTSIDE);
        Due.refused("15: P not in the row, W does not know P", TriedTest::steps, y -> y.sure(2, 4, 11), Due.OUTSIDE);
        Due.refused("15: W does not know P", TriedTest::steps, y -> y.sure(2, 4, 19), Due.NOT);
    }

    private interface RowCall {
        ToIntFunction<ParadeRow> with(int w, int p, int row);
    }

    /** The refusals that all calls with W, P and a row share. */
    private static void refusedRow(String name, RowCall call) {
        refusedPair(name, (w, p) -> call.with(w, p, 7));
        Due.refused(name + ", bits of none", TriedTest::steps, call.with(4, 2, 32 + 7), Due.UNKNOWN);
        Due.refused(name + ", bits far off", TriedTest::steps, call.with(4, 2, 1 << 30 | 7), Due.UNKNOWN);
        Due.refused(name + ", a row below 0", TriedTest::steps, call.with(4, 2, Integer.MIN_VALUE), Due.UNKNOWN);
        Due.refused(name + ", bits of W", TriedTest::steps, call.with(4, 2, 16 + 7), Due.UNKNOWN);
        Due.refused(name + ", bits of W alone", TriedTest::steps, call.with(4, 2, 16), Due.UNKNOWN);
        Due.refused(name + ", one in the row", TriedTest::steps, call.with(4, 2, 4), Due.OUTSIDE);
        Due.refused(name + ", none in the row", TriedTest::steps, call.with(4, 2, 0), Due.OUTSIDE);
        Due.refused(name + ", one in the row, W does not know P", TriedTest::steps, call.with(2, 1, 2), Due.OUTSIDE);
        Due.refused(name + ", bits of W, who does not know P", TriedTest::steps, call.with(2, 1, 6), Due.UNKNOWN);
        Due.refused(name + ", W does not know P", TriedTest::steps, call.with(3, 1, 7), Due.NOT);
    }

    private interface PairCall {
        ToIntFunction<ParadeRow> with(int w, int p);
    }

    private static void refusedPair(String name, PairCall call) {
        Due.refused(name + ", W like P", TriedTest::steps, call.with(2, 2), Due.UNKNOWN);
        Due.refused(name + ", no W", TriedTest::steps, call.with(5, 2), Due.UNKNOWN);
        Due.refused(name + ", no P", TriedTest::steps, call.with(4, 5), Due.UNKNOWN);
        Due.refused(name + ", W below 0", TriedTest::steps, call.with(-1, 2), Due.UNKNOWN);
        Due.refused(name + ", P below 0", TriedTest::steps, call.with(4, -1), Due.UNKNOWN);
        Due.refused(name + ", W and P far off", TriedTest::steps, call.with(99, 98), Due.UNKNOWN);
        Due.refused(name + ", nobody there", ParadeRow::new, call.with(0, 1), Due.UNKNOWN);
    }

    private static void bestRows() {
        Due.is("16: of 2", steps().bestRow(4, 2, 2), 5);
        Due.is("16: of 3, like ones", steps().bestRow(4, 2, 3), 7);
        Due.is("16: of 4", steps().bestRow(4, 2, 4), 15);
        Due.is("16: of 5, not so many", steps().bestRow(4, 2, 5), Due.NONE);
        Due.is("16: of 8, not so many", steps().bestRow(4, 2, 8), Due.NONE);
        Due.is("16: without W", steps().bestRow(0, 2, 2), 20);
        Due.is("16: never picked", stepsWith(2, 4, 5, 6, 7).bestRow(4, 2, 2), Due.NONE);
        Due.is("16: picked just as the least", stepsWith(2, 2).bestRow(4, 2, 2), 5);
        Due.is("16: picked of 2, never of 3", stepsWith(2, 2, 7).bestRow(4, 2, 3), Due.NONE);
        Due.is("16: SURE 1 is enough", stepsWith(2, 2).bestRow(4, 2, 3), 13);
        Due.is("16: two there", Due.placed("p1 0;p1 0;k0 1;").bestRow(0, 1, 2), Due.NONE);
        Due.is("16: like ones alone", Due.placed("p1 0;p1 0;p1 0;k2 0;").bestRow(2, 0, 2), 3);
    }

    private static void refusedBestRows() {
        refusedPair("16: bestRow", (w, p) -> y -> y.bestRow(w, p, 2));
        Due.refused("16: of 1", TriedTest::steps, y -> y.bestRow(4, 2, 1), Due.OUTSIDE);
        Due.refused("16: of 9", TriedTest::steps, y -> y.bestRow(4, 2, 9), Due.OUTSIDE);
        Due.refused("16: of -1", TriedTest::steps, y -> y.bestRow(4, 2, -1), Due.OUTSIDE);
        Due.refused("16: of 9, W like P", TriedTest::steps, y -> y.bestRow(4, 4, 9), Due.UNKNOWN);
        Due.refused("16: of 9, W does not know P", TriedTest::steps, y -> y.bestRow(2, 4, 9), Due.OUTSIDE);
        Due.refused("16: W does not know P", TriedTest::steps, y -> y.bestRow(2, 4, 2), Due.NOT);
    }

    private static void oddsOfPicking() {
        Due.is("17: 0 of all", steps().odds(4, 2, 15, 0), 218750);
        Due.is("17: 1 of all", steps().odds(4, 2, 15, 1), 250000);
        Due.is("17: 2 of all", steps().odds(4, 2, 15, 2), 281250);
        Due.is("17: 0 of three, cut", steps().odds(4, 2, 13, 0), 291666);
        Due.is("17: 3 of three, cut", steps().odds(4, 2, 13, 3), 333333);
        Due.is("17: P not in the row", steps().odds(4, 2, 9, 3), 533333);
        Due.is("17: P not in the row, of P", steps().odds(4, 2, 9, 2), 0);
        Due.is("17: X not in the row", steps().odds(4, 2, 13, 1), 0);
        Due.is("17: X like W", steps().odds(4, 2, 13, 4), 0);
        ParadeRow x = Due.placed("p0 0;p255 0;p0 0;k2 0;");
        Due.is("17: weight 9 of 10", x.odds(2, 0, 3, 0), 900000);
        Due.is("17: weight 1 of 10", x.odds(2, 0, 3, 1), 100000);
        Due.is("17: weight 8 of 12", Due.placed("p1 0;p31 0;p0 0;p0 0;k2 3;").odds(2, 3, 3, 0), 666666);
    }

    private static void refusedOdds() {
        refusedRow("17: odds", (w, p, row) -> y -> y.odds(w, p, row, 1));
        Due.refused("17: no X", TriedTest::steps, y -> y.odds(4, 2, 7, 5), Due.UNKNOWN);
        Due.refused("17: X below 0", TriedTest::steps, y -> y.odds(4, 2, 7, -1), Due.UNKNOWN);
        Due.refused("17: no X, one in the row", TriedTest::steps, y -> y.odds(4, 2, 4, 5), Due.UNKNOWN);
        Due.refused("17: no X, W does not know P", TriedTest::steps, y -> y.odds(3, 1, 7, 5), Due.UNKNOWN);
    }

    private static void whomToAsk() {
        Due.is("18: like ones", steps().ask(2, 12), 0);
        Due.is("18: those in the row are not asked", steps().ask(2, 13), 4);
        Due.is("18: the only one", steps().ask(0, 5), 1);
        Due.is("18: nobody knows him", steps().ask(3, 12), Due.NONE);
        Due.is("18: who knows him is in the row", steps().ask(0, 3), Due.NONE);
        Due.is("18: nobody picks him", stepsWith(2, 4, 5, 6, 7).ask(2, 6), Due.NONE);
        ParadeRow x = stepsWith(2, 2);
        x.meet(4, 2);
        Due.is("18: the only one who picks him", x.ask(2, 6), 4);
        Due.is("18: the surest, not the first", x.ask(2, 5), 4);
        Due.is("18: like ones with SURE 1", x.ask(2, 12), 0);
        Due.is("18: a row of all", x.ask(2, 31), Due.NONE);
    }

    private static void refusedAsking() {
        Due.refused("18: no P", TriedTest::steps, y -> y.ask(5, 7), Due.UNKNOWN);
        Due.refused("18: P below 0", TriedTest::steps, y -> y.ask(-1, 7), Due.UNKNOWN);
        Due.refused("18: bits of none", TriedTest::steps, y -> y.ask(2, 36), Due.UNKNOWN);
        Due.refused("18: a row below 0", TriedTest::steps, y -> y.ask(2, -1), Due.UNKNOWN);
        Due.refused("18: one in the row", TriedTest::steps, y -> y.ask(2, 4), Due.OUTSIDE);
        Due.refused("18: none in the row", TriedTest::steps, y -> y.ask(2, 0), Due.OUTSIDE);
        Due.refused("18: P not in the row", TriedTest::steps, y -> y.ask(2, 3), Due.OUTSIDE);
        Due.refused("18: nobody there", ParadeRow::new, y -> y.ask(0, 3), Due.UNKNOWN);
    }

    private static ParadeRow twoSwapped() {
        ParadeRow x = Due.placed(RINGS);
        Due.is("19: 1 is picked as 2", x.parade(4, 2, 10), 1);
        Due.is("19: 2 is picked as 1", x.parade(4, 1, 12), 2);
        return x;
    }

    private static void tellRings(String name, ParadeRow x, int[] ring, int[] rings) {
        for (int p = 0; p < ring.length; p++) {
            Due.is("19: " + name + ", ring(" + p + ")", x.ring(p), ring[p]);
        }
        for (int what = 0; what < rings.length; what++) {
            Due.is("20: " + name + ", rings(" + what + ")", x.rings(what), rings[what]);
        }
    }

    private static void ringsOfTwoAndThree() {
        ParadeRow x = twoSwapped();
        tellRings("two", x, new int[] {1, 2, 2, 1, 1}, new int[] {2, 2, 2});
        Due.is("19: 1 is picked as 0", x.parade(4, 0, 6), 1);
        tellRings("a chain", x, new int[] {1, -1, -1, 1, 1}, new int[] {0, 2, 2});
        x.mark(3, 7);
        Due.is("19: 0 is picked as 2", x.parade(4, 2, 9), 0);
        tellRings("three", x, new int[] {3, 3, 3, 1, 1}, new int[] {3, 3, 3});
        x.forget(4, 0);
        tellRings("three, 0 is known by nobody", x, new int[] {3, 3, 3, 1, 1}, new int[] {3, 3, 2});
    }

    private static void ringOfAll() {
        ParadeRow x = Due.placed("p0 0;p0 0;p0 0;k2 1;k0 2;k1 0;");
        Due.is("19: 0 is picked as 1", x.parade(2, 1, 3), 0);
        Due.is("19: 1 is picked as 2", x.parade(0, 2, 6), 1);
        x.mark(0, 7);
        Due.is("19: 2 is picked as 0", x.parade(1, 0, 5), 2);
        tellRings("all of three", x, new int[] {3, 3, 3}, new int[] {3, 3, 3});
    }

    private static void selfAndAstray() {
        tellRings("all themselves", Due.placed(RINGS), new int[] {1, 1, 1, 1, 1}, new int[] {0, 0, 0});
        ParadeRow x = twoSwapped();
        Due.is("19: 3 is picked as 2", x.parade(4, 2, 9), 3);
        tellRings("one that leads into a ring", x, new int[] {1, 2, 2, -1, 1}, new int[] {2, 3, 3});
        x.forget(0, 3);
        tellRings("known by nobody", x, new int[] {1, 2, 2, -1, 1}, new int[] {2, 3, 2});
    }

    private static void refusedRings() {
        Due.refused("19: ring(5)", TriedTest::steps, y -> y.ring(5), Due.UNKNOWN);
        Due.refused("19: ring(-1)", TriedTest::steps, y -> y.ring(-1), Due.UNKNOWN);
        Due.refused("20: rings(3)", TriedTest::steps, y -> y.rings(3), Due.OUTSIDE);
        Due.refused("20: rings(-1)", TriedTest::steps, y -> y.rings(-1), Due.OUTSIDE);
        Due.is("20: rings(2) of nobody", new ParadeRow().rings(2), 0);
    }

    private static void masks() {
        Due.is("21: as it is", steps().mask(4, 2, 6, 2), 0);
        Due.is("21: more than can be", steps().mask(4, 2, 6, 3), Due.NONE);
        Due.is("21: like ones, back to 3", stepsWith(2, 2).mask(4, 2, 6, 1), 4);
        Due.is("21: SURE 1 as it is", stepsWith(2, 2).mask(4, 2, 12, 1), 0);
        Due.is("21: SURE 2", stepsWith(2, 2).mask(4, 2, 12, 2), 4);
        Due.is("21: one of two, the least", stepsWith(2, 2, 4).mask(4, 2, 5, 1), 4);
        Due.is("21: SURE 2, one is enough", stepsWith(2, 2, 4).mask(4, 2, 5, 2), 4);
        Due.is("21: SURE 3, both", stepsWith(2, 2, 4).mask(4, 2, 5, 3), 20);
        Due.is("21: a mark lost and one taken on", stepsWith(2, 0, 7).mask(4, 2, 5, 3), 129);
        ParadeRow far = Due.placed("p0 0;p255 0;p0 0;k2 0;");
        Due.is("21: SURE 8 as it is", far.mask(2, 0, 3, 8), 0);
        far.mark(0, 3);
        far.mark(0, 5);
        Due.is("21: SURE 8, one of two", far.mask(2, 0, 3, 8), 8);
        ParadeRow all = Due.placed("p0 0;p127 0;p0 0;k2 0;");
        for (int k = 0; k < 8; k++) {
            all.mark(0, k);
        }
        Due.is("21: all eight marks", all.mask(2, 0, 3, 8), 255);
        Due.is("21: the row's others count alike", steps().mask(4, 2, 15, 2), 0);
    }

    private static void refusedMasks() {
        refusedRow("21: mask", (w, p, row) -> y -> y.mask(w, p, row, 1));
        Due.refused("21: P not in the row", TriedTest::steps, y -> y.mask(4, 2, 11, 1), Due.OUTSIDE);
        Due.refused("21: m is 0", TriedTest::steps, y -> y.mask(4, 2, 6, 0), Due.OUTSIDE);
        Due.refused("21: m is 9", TriedTest::steps, y -> y.mask(4, 2, 6, 9), Due.OUTSIDE);
        Due.refused("21: m is -1", TriedTest::steps, y -> y.mask(4, 2, 6, -1), Due.OUTSIDE);
        Due.refused("21: m is 9, W does not know P", TriedTest::steps, y -> y.mask(3, 1, 6, 9), Due.OUTSIDE);
        Due.refused("21: m is 9, bits of W", TriedTest::steps, y -> y.mask(4, 2, 22, 9), Due.UNKNOWN);
    }

    private static void spoiling() {
        Due.is("22: like P, and less", steps().spoil(4, 2, 6, 1), 2);
        Due.is("22: like P, and more", steps().spoil(4, 2, 12, 3), Due.NONE);
        Due.is("22: P not in the row", steps().spoil(4, 2, 11, 3), 4);
        Due.is("22: as it is", steps().spoil(4, 2, 9, 3), 0);
        Due.is("22: one of two, the least", steps().spoil(4, 2, 9, 0), 1);
        Due.is("22: all of three", steps().spoil(4, 2, 15, 0), 3);
        Due.is("22: P is off now", stepsWith(2, 7).spoil(4, 2, 12, 3), 4);
        Due.is("22: P is farther off now", stepsWith(2, 7, 6).spoil(4, 2, 12, 3), 0);
    }

    private static void refusedSpoiling() {
        refusedRow("22: spoil", (w, p, row) -> y -> y.spoil(w, p, row, 0));
        Due.refused("22: X like P", TriedTest::steps, y -> y.spoil(4, 2, 6, 2), Due.UNKNOWN);
        Due.refused("22: X like P, not in the row", TriedTest::steps, y -> y.spoil(4, 2, 9, 2), Due.UNKNOWN);
        Due.refused("22: no X", TriedTest::steps, y -> y.spoil(4, 2, 6, 5), Due.UNKNOWN);
        Due.refused("22: X below 0", TriedTest::steps, y -> y.spoil(4, 2, 6, -1), Due.UNKNOWN);
        Due.refused("22: X not in the row", TriedTest::steps, y -> y.spoil(4, 2, 6, 3), Due.OUTSIDE);
        Due.refused("22: X like W, who is not in the row", TriedTest::steps, y -> y.spoil(4, 2, 6, 4), Due.OUTSIDE);
        Due.refused("22: X not in the row, W does not know P", TriedTest::steps, y -> y.spoil(3, 1, 6, 0), Due.OUTSIDE);
    }

    private static void impostors() {
        Due.is("23: 1 of 2, how many", steps().impostor(4, 2, 1, 2, 0), 2);
        Due.is("23: 1 of 2, the least", steps().impostor(4, 2, 1, 2, 1), 3);
        Due.is("23: 3 of 2, how many", steps().impostor(4, 2, 3, 2, 0), 1);
        Due.is("23: 3 of 2, the least", steps().impostor(4, 2, 3, 2, 1), 9);
        Due.is("23: 1 of 3, how many", steps().impostor(4, 2, 1, 3, 0), 1);
        Due.is("23: 1 of 3, the least", steps().impostor(4, 2, 1, 3, 1), 11);
        Due.is("23: 1 of 4, how many", steps().impostor(4, 2, 1, 4, 0), 0);
        Due.is("23: 1 of 4, none", steps().impostor(4, 2, 1, 4, 1), Due.NONE);
        Due.is("23: 1 of 8, how many", steps().impostor(4, 2, 1, 8, 0), 0);
        Due.is("23: 1 of 8, none", steps().impostor(4, 2, 1, 8, 1), Due.NONE);
        Due.is("23: P himself, how many", steps().impostor(4, 2, 2, 2, 0), 3);
        Due.is("23: P himself, the least", steps().impostor(4, 2, 2, 2, 1), 5);
        Due.is("23: rows without W", steps().impostor(0, 2, 1, 2, 1), 10);
    }

    private static void refusedImpostors() {
        refusedPair("23: impostor", (w, p) -> y -> y.impostor(w, p, 1, 2, 0));
        Due.refused("23: no X", TriedTest::steps, y -> y.impostor(4, 2, 5, 2, 0), Due.UNKNOWN);
        Due.refused("23: X below 0", TriedTest::steps, y -> y.impostor(4, 2, -1, 2, 0), Due.UNKNOWN);
        Due.refused("23: X like W", TriedTest::steps, y -> y.impostor(4, 2, 4, 2, 0), Due.UNKNOWN);
        Due.refused("23: of 1", TriedTest::steps, y -> y.impostor(4, 2, 1, 1, 0), Due.OUTSIDE);
        Due.refused("23: of 9", TriedTest::steps, y -> y.impostor(4, 2, 1, 9, 0), Due.OUTSIDE);
        Due.refused("23: what is -1", TriedTest::steps, y -> y.impostor(4, 2, 1, 2, -1), Due.OUTSIDE);
        Due.refused("23: what is 2", TriedTest::steps, y -> y.impostor(4, 2, 1, 2, 2), Due.OUTSIDE);
        Due.refused("23: X like W, of 9", TriedTest::steps, y -> y.impostor(4, 2, 4, 9, 0), Due.UNKNOWN);
        Due.refused("23: of 9, W does not know P", TriedTest::steps, y -> y.impostor(2, 4, 1, 9, 0), Due.OUTSIDE);
        Due.refused("23: W does not know P", TriedTest::steps, y -> y.impostor(2, 4, 1, 2, 0), Due.NOT);
    }

    private static void lostFriends() {
        Due.is("24: 2 apart, how many", stepsWith(2, 7, 6).lost(-1), 0);
        Due.is("24: 2 apart, none", stepsWith(2, 7, 6).lost(0), Due.NONE);
        ParadeRow x = stepsWith(2, 7, 6, 5);
        int[] due = {2, 32, 42, Due.NONE, Due.NONE};
        Due.is("24: 3 apart, how many", x.lost(-1), 3);
        for (int i = 0; i < due.length; i++) {
            Due.is("24: lost(" + i + ")", x.lost(i), due[i]);
        }
        Due.is("24: lost(-2)", x.lost(-2), Due.NONE);
        Due.is("24: lost(MIN)", x.lost(Integer.MIN_VALUE), Due.NONE);
        Due.is("24: lost(MAX)", x.lost(Integer.MAX_VALUE), Due.NONE);
        x.meet(3, 2);
        Due.is("24: met, how many", x.lost(-1), 2);
        Due.is("24: met, the second", x.lost(1), 42);
        ParadeRow back = stepsWith(0, 1, 2, 3);
        Due.is("24: 1 lost 0", back.lost(0), 10);
        Due.is("24: of nobody", new ParadeRow().lost(-1), 0);
        Due.is("24: the first of nobody", new ParadeRow().lost(0), Due.NONE);
        x.forget(0, 2);
        Due.is("24: forgotten, how many", x.lost(-1), 1);
    }

    private static void alikePairs() {
        ParadeRow x = Due.placed("p0 1;p1 0;p0 0;");
        Due.is("25: alike(0)", x.alike(0), 2);
        Due.is("25: alike(1)", x.alike(1), 1);
        Due.is("25: alike(2)", x.alike(2), Due.NONE);
        Due.is("25: alike(16)", x.alike(16), 2);
        Due.is("25: alike(60)", x.alike(60), Due.NONE);
        x.year(1);
        Due.is("25: alike(0) a year on", x.alike(0), 1);
        Due.is("25: alike(15) a year on", x.alike(15), 2);
        Due.is("25: the first of several", Due.placed("p1 0;p2 0;p3 0;p2 0;p1 0;").alike(0), 4);
        Due.is("25: the lesser first", Due.placed("p1 0;p2 0;p3 0;p3 0;p2 0;").alike(0), 14);
        Due.is("25: alike(0) of nobody", new ParadeRow().alike(0), Due.NONE);
        Due.refused("25: alike(-1)", TriedTest::steps, y -> y.alike(-1), Due.OUTSIDE);
        Due.refused("25: alike(61)", TriedTest::steps, y -> y.alike(61), Due.OUTSIDE);
        Due.refused("25: alike(61) of nobody", ParadeRow::new, y -> y.alike(61), Due.OUTSIDE);
    }

    private static ParadeRow busy() {
        ParadeRow x = stepsWith(2, 7);
        x.parade(4, 2, 10);
        x.keep(1);
        x.year(2);
        return x;
    }

    private static void nothingChanges() {
        List<ToIntFunction<ParadeRow>> calls = List.of(
            y -> y.sure(4, 2, 12), y -> y.bestRow(4, 2, 3), y -> y.odds(4, 2, 15, 0), y -> y.ask(2, 12),
            y -> y.ring(1), y -> y.rings(1), y -> y.mask(4, 2, 12, 1), y -> y.spoil(4, 2, 12, 3),
            y -> y.impostor(4, 2, 1, 2, 0), y -> y.lost(-1), y -> y.alike(60), y -> y.showNext(4, 2),
            y -> y.honest(), y -> y.nods(4), y -> y.judge(), y -> y.told(3), y -> y.person(2, 3),
            y -> y.remembers(4, 2), y -> y.fault());
        for (int i = 0; i < calls.size(); i++) {
            ParadeRow x = busy();
            calls.get(i).applyAsInt(x);
            Due.same("nothing changes by call " + i, Due.all(x), Due.all(busy()));
        }
    }
}
