import java.util.ArrayList;
import java.util.List;

/** Promises 1 to 7: a new object, the text and its faults, what is told of the place. */
public final class PlaceTest {
    static final String TOWN = "p7 0;p6 1;p56 3;p5 0;p7 2;k0 1;k0 3;k2 0;k3 1;k4 0;";
    private static final String EIGHT = "p1 1;p1 1;p1 1;p1 1;p1 1;p1 1;p1 1;p1 1;";

    private PlaceTest() {
    }

    public static void main(String[] args) {
        newObject();
        feeding();
        textsWithoutFault();
        faultsOfLetters();
        faultsOfNumbers();
        faultsOfPersons();
        firstOfSeveralFaults();
        aNewPlaceDropsTheOld();
        aFaultChangesNothing();
        faultOfTheLatest();
        telling();
        threeOfOne();
        twiceTwoOfOne();
        persons();
        memories();
        Due.end("PlaceTest");
    }

    private static void newObject() {
        ParadeRow x = new ParadeRow();
        for (int what = 0; what <= 8; what++) {
            Due.is("1: told(" + what + ")", x.told(what), 0);
        }
        Due.is("1: fault()", x.fault(), Due.NONE);
        Due.is("1: person(0, 0)", x.person(0, 0), Due.UNKNOWN);
        Due.is("1: remembers(0, 1)", x.remembers(0, 1), Due.UNKNOWN);
        Due.is("1: undo()", x.undo(), Due.NOT);
        Due.is("1: honest()", x.honest(), 0);
        Due.is("1: judge()", x.judge(), Due.NONE);
        Due.is("1: lost(-1)", x.lost(-1), 0);
        Due.is("1: alike(0)", x.alike(0), Due.NONE);
        Due.is("1: goBack(0)", x.goBack(0), Due.NOT);
        Due.is("1: goBack(1)", x.goBack(1), Due.NOT);
        Due.is("1: seed(5)", x.seed(5), 0);
    }

    private static void feeding() {
        ParadeRow x = new ParadeRow();
        Due.is("2: feed(0)", x.feed(0), 1);
        Due.is("2: feed(255)", x.feed(255), 2);
        Due.refused("2: feed(-1)", () -> Due.placed(TOWN), y -> y.feed(-1), Due.OUTSIDE);
        Due.refused("2: feed(256)", () -> Due.placed(TOWN), y -> y.feed(256), Due.OUTSIDE);
        Due.refused("2: feed(MIN)", () -> Due.placed(TOWN), y -> y.feed(Integer.MIN_VALUE), Due.OUTSIDE);
        Due.refused("2: feed(MAX)", () -> Due.placed(TOWN), y -> y.feed(Integer.MAX_VALUE), Due.OUTSIDE);
        for (int i = 3; i <= 240; i++) {
            Due.is("2: feed(32) as letter " + i, x.feed(32), i);
        }
        Due.is("2: feed(32) behind 240", x.feed(32), Due.FULL);
        Due.is("2: feed(256) behind 240", x.feed(256), Due.OUTSIDE);
        Due.is("2: told(1) behind 240", x.told(1), 240);
        Due.is("2: place() empties", x.place(), -11);
        Due.is("2: feed(112) again", x.feed(112), 1);
    }

    private static void fits(String text, int persons) {
        ParadeRow x = new ParadeRow();
        Due.feed(x, text);
        Due.is("3: place() of '" + text + "'", x.place(), persons);
        Due.is("4: fault() of '" + text + "'", x.fault(), Due.NONE);
        Due.is("3: told(1) of '" + text + "'", x.told(1), 0);
        Due.is("3: told(0) of '" + text + "'", x.told(0), persons);
    }

    private static void faulty(String text, int fault, int letter) {
        ParadeRow x = new ParadeRow();
        Due.feed(x, text);
        Due.is("3: place() of '" + text + "'", x.place(), -10 - fault);
        Due.is("4: fault() of '" + text + "'", x.fault(), letter);
        Due.is("3: told(1) of '" + text + "'", x.told(1), 0);
        Due.is("3: told(0) of '" + text + "'", x.told(0), 0);
    }

    private static void textsWithoutFault() {
        fits("", 0);
        fits("   ", 0);
        fits("p0 0;", 1);
        fits("p255 7;", 1);
        fits("p000 007;", 1);
        fits("  p  1   2  ;  p 3 4 ; k 0 1 ; ", 2);
        fits("p1 2;p3 4;k0 1;k1 0;", 2);
        fits("p1 2;p3 4;k0 1;p5 6;k2 0;k0 2;", 3);
        fits("p1 2;p3 4;k000 001;", 2);
        fits(EIGHT, 8);
        fits(EIGHT + "k7 0;k0 7;", 8);
        fits(EIGHT + " ".repeat(200), 8);
        fits(" ".repeat(235) + "p0 0;", 1);
    }

    private static void faultsOfLetters() {
        faulty("x", 1, 0);
        faulty(" ;", 1, 1);
        faulty("0", 1, 0);
        faulty("1000", 1, 0);
        faulty("P1 2;", 1, 0);
        faulty("\tp1 2;", 1, 0);
        faulty("p1\t2;", 1, 2);
        faulty("p", 1, 1);
        faulty("p  ", 1, 3);
        faulty("p;", 1, 1);
        faulty("p1", 1, 2);
        faulty("p1 ", 1, 3);
        faulty("p1;", 1, 2);
        faulty("p12;", 1, 3);
        faulty("p1 2", 1, 4);
        faulty("p1 2 ", 1, 5);
        faulty("p1 2 3;", 1, 5);
        faulty("p1 2 1000;", 1, 5);
        faulty("p1 2;;", 1, 5);
        faulty("p1 2p3 4;", 1, 4);
        faulty("p-1 2;", 1, 1);
        faulty("p1x2;", 1, 2);
        faulty("p1 2x", 1, 4);
        faulty("p1 2;" + (char) 233, 1, 5);
        faulty("p1 2;" + (char) 0, 1, 5);
        faulty("pp", 1, 1);
        faulty("k", 1, 1);
        faulty("p1 2;k", 1, 6);
        faulty("p1 2;k;", 1, 6);
        faulty("p1 2;k0", 1, 7);
        faulty("p1 2;k0;", 1, 7);
        faulty("p1 2;k0x", 1, 7);
        faulty("p1 2;p1 2;k0 1", 1, 14);
        faulty("p1 2;p1 2;k0 1 1;", 1, 15);
        faulty("p1/2;", 1, 2);
        faulty("p1:2;", 1, 2);
    }

    private static void faultsOfNumbers() {
        faulty("p256 0;", 2, 1);
        faulty("p999 0;", 2, 1);
        faulty("p 256 0;", 2, 2);
        faulty("p1000 0;", 2, 1);
        faulty("p0000 0;", 2, 1);
        faulty("p0 8;", 2, 3);
        faulty("p0 0000;", 2, 3);
        faulty("p0   008;", 2, 5);
        faulty("p" + "9".repeat(200), 2, 1);
        faulty("p4294967296 0;", 2, 1);
        faulty("p0 4294967296;", 2, 3);
        faulty("p1 2;p1 2;k0000 1;", 2, 11);
        faulty("p1 2;p1 2;k0 0001;", 2, 13);
    }

    private static void faultsOfPersons() {
        faulty("k0 1;", 2, 1);
        faulty("k 0 0;", 2, 2);
        faulty("p1 2;k1 0;", 2, 6);
        faulty("p1 2;k0 1;", 2, 8);
        faulty("p1 2;k0 1;p1 2;", 2, 8);
        faulty(EIGHT + "k0 8;", 2, 43);
        faulty(EIGHT + "k8 0;", 2, 41);
        faulty(EIGHT + "p", 3, 40);
        faulty(EIGHT + "  p1 1;", 3, 42);
        faulty(EIGHT + "k0 1;p999 9;", 3, 45);
        faulty("p1 2;k0 0;", 4, 8);
        faulty("p1 2;k 0  0;", 4, 10);
        faulty("p1 2;p1 2;k0 1;k0 1;", 4, 18);
        faulty("p1 2;p1 2;k1 0;k1 00;", 4, 18);
    }

    private static void firstOfSeveralFaults() {
        faulty("p300x", 2, 1);
        faulty("p256", 2, 1);
        faulty("p1 9x", 2, 3);
        faulty("p1 2;k0 0", 4, 8);
        faulty("p1 2;k0 0x", 4, 8);
        faulty("p1 2;k5 5;", 2, 6);
        faulty("x p1000 9;", 1, 0);
    }

    private static ParadeRow busy() {
        ParadeRow x = Due.placed(TOWN);
        x.seed(77);
        x.parade(3, 1, 21);
        x.keep(0);
        x.keep(1);
        x.year(3);
        x.alike(5);
        x.meet(1, 2);
        x.see(0, 1, 14, 3);
        x.write(1, 0);
        return x;
    }

    private static void aNewPlaceDropsTheOld() {
        ParadeRow x = busy();
        Due.feed(x, "p9 1;p8 2;k1 0;");
        Due.is("3: place() anew", x.place(), 2);
        int[] told = {2, 0, 0, 0, 0, 1, 0, 0, 0};
        for (int what = 0; what <= 8; what++) {
            Due.is("3: told(" + what + ") anew", x.told(what), told[what]);
        }
        Due.is("3: person(0, 0) anew", x.person(0, 0), 9);
        Due.is("3: person(1, 1) anew", x.person(1, 1), 2);
        Due.is("3: person(0, 2) anew", x.person(0, 2), 0);
        Due.is("3: person(1, 2) anew", x.person(1, 2), 1);
        Due.is("3: person(2, 0) anew", x.person(2, 0), Due.UNKNOWN);
        Due.is("3: remembers(0, 1) anew", x.remembers(0, 1), Due.NONE);
        Due.is("3: remembers(1, 0) anew", x.remembers(1, 0), 9);
        Due.is("3: undo() anew", x.undo(), Due.NOT);
        Due.is("3: goBack(0) anew", x.goBack(0), Due.NOT);
        Due.is("3: goBack(1) anew", x.goBack(1), Due.NOT);
        Due.is("3: judge() anew", x.judge(), Due.NONE);
        Due.is("3: honest() anew", x.honest(), 3);
        Due.is("3: seed stays", x.seed(0), 77);
        ParadeRow none = busy();
        Due.is("3: place() of an empty text", none.place(), 0);
        Due.is("3: told(0) of an empty text", none.told(0), 0);
        Due.is("3: told(5) of an empty text", none.told(5), 0);
    }

    private static void aFaultChangesNothing() {
        ParadeRow x = busy();
        Due.feed(x, "p9 1;p8 2;k1 0;k1 0;");
        Due.is("3: place() with a fault", x.place(), -14);
        Due.is("4: fault() with a fault", x.fault(), 18);
        Due.is("3: told(1) with a fault", x.told(1), 0);
        ParadeRow y = busy();
        Due.feed(y, "z");
        y.place();
        ParadeRow z = busy();
        Due.feed(z, "p1 1;z");
        z.place();
        List<Integer> before = withoutFault(Due.all(busy()));
        Due.same("3: a fault leaves all but its letter", withoutFault(Due.all(y)), before);
        Due.same("3: a later fault leaves all but its letter", withoutFault(Due.all(z)), before);
    }

    /** The fault stands behind the 9 told and the 11 of each of 5 persons. */
    private static List<Integer> withoutFault(List<Integer> all) {
        List<Integer> rest = new ArrayList<>(all);
        rest.remove(9 + 5 * 11);
        return rest;
    }

    private static void faultOfTheLatest() {
        ParadeRow x = new ParadeRow();
        Due.feed(x, "p1 2;x");
        Due.is("4: place()", x.place(), -11);
        Due.is("4: fault()", x.fault(), 5);
        Due.is("4: fault() again", x.fault(), 5);
        Due.feed(x, "p1 2;");
        Due.is("4: fault() while feeding", x.fault(), 5);
        Due.is("4: place() without", x.place(), 1);
        Due.is("4: fault() without", x.fault(), Due.NONE);
        Due.feed(x, "p1 2");
        Due.is("3: place() with its end in the text ahead of it", x.place(), -11);
        Due.is("4: fault() at the end", x.fault(), 4);
    }

    private static void telling() {
        ParadeRow x = Due.placed(TOWN);
        x.feed(65);
        x.feed(66);
        x.year(4);
        x.parade(3, 1, 21);
        x.see(0, 1, 14, 1);
        x.see(0, 1, 14, 2);
        x.see(0, 1, 14, 3);
        x.write(0, 0);
        x.write(1, 0);
        x.write(1, 0);
        x.write(1, 0);
        int[] due = {5, 2, 4, 3, 1, 5, 3, 4, 2};
        for (int what = 0; what <= 8; what++) {
            Due.is("5: told(" + what + ")", x.told(what), due[what]);
        }
        Due.refused("5: told(-1)", () -> Due.placed(TOWN), y -> y.told(-1), Due.OUTSIDE);
        Due.refused("5: told(9)", () -> Due.placed(TOWN), y -> y.told(9), Due.OUTSIDE);
        Due.refused("5: told(MIN)", () -> Due.placed(TOWN), y -> y.told(Integer.MIN_VALUE), Due.OUTSIDE);
    }

    private static void threeOfOne() {
        ParadeRow x = Due.placed("p0 0;p1 0;p3 0;p7 0;p15 0;k4 2;");
        Due.is("5: parade of 0 and 3", x.parade(4, 2, 9), 3);
        Due.is("5: told(3), 2 and 3 are 2", x.told(3), 12);
        Due.is("5: told(4), nobody is 3", x.told(4), 8);
        Due.is("5: parade of 0 and 1", x.parade(4, 2, 3), 1);
        Due.is("5: told(3), 1, 2 and 3 are 2", x.told(3), 14);
        Due.is("5: told(4), nobody is 1 or 3", x.told(4), 10);
    }

    private static void twiceTwoOfOne() {
        ParadeRow x = Due.placed("p0 0;p0 0;p3 0;p3 0;k3 0;k1 2;");
        Due.is("5: parade, 1 is picked as 0", x.parade(3, 0, 6), 1);
        Due.is("5: told(3), 0 and 1 are 0", x.told(3), 3);
        Due.is("5: parade, 3 is picked as 2", x.parade(1, 2, 9), 3);
        Due.is("5: told(3), two and two", x.told(3), 15);
        Due.is("5: told(4), nobody is 1 or 3", x.told(4), 10);
    }

    private static void persons() {
        ParadeRow x = Due.placed(TOWN);
        int[][] due = {{7, 0, 0, 10, 20}, {6, 1, 1, 0, 9}, {56, 3, 2, 1, 0}, {5, 0, 3, 2, 1}, {7, 2, 4, 1, 0}};
        for (int p = 0; p < 5; p++) {
            for (int what = 0; what <= 4; what++) {
                Due.is("6: person(" + p + ", " + what + ")", x.person(p, what), due[p][what]);
            }
        }
        Due.refused("6: person(-1, 0)", () -> Due.placed(TOWN), y -> y.person(-1, 0), Due.UNKNOWN);
        Due.refused("6: person(5, 0)", () -> Due.placed(TOWN), y -> y.person(5, 0), Due.UNKNOWN);
        Due.refused("6: person(8, 0)", () -> Due.placed(EIGHT), y -> y.person(8, 0), Due.UNKNOWN);
        Due.refused("6: person(0, -1)", () -> Due.placed(TOWN), y -> y.person(0, -1), Due.OUTSIDE);
        Due.refused("6: person(0, 5)", () -> Due.placed(TOWN), y -> y.person(0, 5), Due.OUTSIDE);
        Due.refused("6: person(5, 5)", () -> Due.placed(TOWN), y -> y.person(5, 5), Due.UNKNOWN);
    }

    private static void memories() {
        ParadeRow x = Due.placed("p7 1;p0 0;k1 0;");
        Due.is("7: remembers(1, 0)", x.remembers(1, 0), 7);
        Due.is("7: remembers(0, 1)", x.remembers(0, 1), Due.NONE);
        x.year(1);
        Due.is("7: person(0, 0) behind a year", x.person(0, 0), 6);
        Due.is("7: remembers(1, 0) behind a year", x.remembers(1, 0), 7);
        x.meet(0, 1);
        Due.is("7: remembers(0, 1), no marks", x.remembers(0, 1), 0);
        Due.refused("7: remembers(0, 0)", () -> Due.placed(TOWN), y -> y.remembers(0, 0), Due.UNKNOWN);
        Due.refused("7: remembers(-1, 0)", () -> Due.placed(TOWN), y -> y.remembers(-1, 0), Due.UNKNOWN);
        Due.refused("7: remembers(0, -1)", () -> Due.placed(TOWN), y -> y.remembers(0, -1), Due.UNKNOWN);
        Due.refused("7: remembers(5, 0)", () -> Due.placed(TOWN), y -> y.remembers(5, 0), Due.UNKNOWN);
        Due.refused("7: remembers(0, 5)", () -> Due.placed(TOWN), y -> y.remembers(0, 5), Due.UNKNOWN);
    }
}
