import java.util.ArrayList;
import java.util.List;

/** Promises 1 to 7 and section 1: a test for each sentence that names a boundary case. */
public final class PlaceBoundsTest {
    private static final String EIGHT = "p1 1;".repeat(8);
    private static final String TWO = "p1 2;p3 4;";

    private PlaceBoundsTest() {
    }

    public static void main(String[] args) {
        newObject();
        feed();
        boundsOfTheText();
        boundsOfNumbers();
        boundsOfPairs();
        blanks();
        faultsOfLetters();
        faultsOfNumbers();
        faultsOfPersons();
        whichFault();
        place();
        placeWithFault();
        fault();
        told();
        person();
        remembers();
        Sentence.end("PlaceBoundsTest", 1, 7);
    }

    /** The text is told without a fault. */
    private static ParadeRow fits(String text, int persons) {
        ParadeRow x = new ParadeRow();
        Due.feed(x, text);
        Due.is("place() of '" + text + "'", x.place(), persons);
        Due.is("fault() of '" + text + "'", x.fault(), Due.NONE);
        return x;
    }

    /** The text has this fault, at this letter. */
    private static void faulty(String text, int fault, int letter) {
        ParadeRow x = new ParadeRow();
        Due.feed(x, text);
        Due.is("place() of '" + text + "'", x.place(), -10 - fault);
        Due.is("fault() of '" + text + "'", x.fault(), letter);
    }

    private static void newObject() {
        Sentence.holds(1, "No PERSONS.", () -> {
            Script.run(new ParadeRow(), "told(0)=0 person(0,0)=UNKNOWN remembers(0,1)=UNKNOWN meet(0,1)=UNKNOWN");
            Script.run(new ParadeRow(), "mark(0,0)=UNKNOWN ring(0)=UNKNOWN nods(0)=UNKNOWN write(0,0)=UNKNOWN");
            Script.run(new ParadeRow(), "year(1)=NOT drift(1)=NOT honest()=0 judge()=NONE alike(0)=NONE");
            Script.run(new ParadeRow(), "rings(0)=0 rings(1)=0 rings(2)=0 lost(NONE)=0 lost(0)=NONE fault()=NONE");
            Script.run(new ParadeRow(), "ask(0,0)=UNKNOWN parade(0,1,0)=UNKNOWN showNext(0,1)=UNKNOWN undo()=NOT");
        });
        Sentence.holds(1, "THE SEED (0 at first", () -> Script.run(new ParadeRow(), "seed(1)=0"));
        Sentence.holds(1, "What has a number has it from 0 on, as it comes.", () ->
            Script.run(Due.placed("p9 1;p8 2;p7 3;"), "person(0,0)=9 person(1,0)=8 person(2,0)=7 person(3,0)=UNKNOWN"));
    }

    private static void feed() {
        Sentence.holds(2, "One letter (a number 0 .. 255)", () -> {
            Script.run(new ParadeRow(), "feed(0)=1 feed(255)=2 feed(1)=3 feed(254)=4");
            Script.refused(Towns::busy, "feed(-1)=OUTSIDE feed(256)=OUTSIDE feed(MIN)=OUTSIDE feed(MAX)=OUTSIDE");
        });
        Sentence.holds(2, "comes behind THE TEXT: how many it has.", () ->
            Script.run(new ParadeRow(), "feed(112)=1 feed(53)=2 feed(32)=3 feed(49)=4 feed(59)=5 told(1)=5 place()=1 person(0,0)=5"));
        Sentence.holds(2, "FULL (240).", () -> {
            ParadeRow x = new ParadeRow();
            for (int i = 1; i <= 240; i++) {
                Due.is("feed(32), letter " + i, x.feed(32), i);
            }
            Script.run(x, "feed(32)=FULL told(1)=240 feed(120)=FULL place()=0 feed(32)=1");
            Script.refused(Towns::fullText, "feed(0)=FULL feed(255)=FULL feed(120)=FULL");
        });
        Sentence.holds(2, "OUTSIDE, FULL (240).", () ->
            Script.refused(Towns::fullText, "feed(-1)=OUTSIDE feed(256)=OUTSIDE feed(MIN)=OUTSIDE"));
    }

    private static void boundsOfTheText() {
        Sentence.holds(3, "(240 letters at most)", () -> {
            fits(" ".repeat(235) + "p1 2;", 1);
            fits("p1 2;" + " ".repeat(230) + "p3 4;", 2);
            fits("p1 2;" + " ".repeat(235), 1);
            faulty("p1 2;" + " ".repeat(234) + "x", 1, 239);
            faulty(" ".repeat(236) + "p1 2", 1, 240);
        });
        Sentence.holds(3, "(8 PERSONS at most", () -> {
            Script.run(fits(EIGHT, 8), "told(0)=8 person(7,0)=1 person(8,0)=UNKNOWN");
            fits("p1 1;".repeat(7), 7);
            faulty(EIGHT + "p1 1;", 3, 40);
        });
        Sentence.holds(3, "An empty text: no PERSONS.", () -> {
            fits("", 0);
            fits(" ", 0);
            fits(" ".repeat(240), 0);
            Script.run(Due.placed(TWO), "place()=0 told(0)=0 person(0,0)=UNKNOWN fault()=NONE");
        });
    }

    private static void boundsOfNumbers() {
        Sentence.holds(3, "MARKS M 0 .. 255", () -> {
            Script.run(fits("p0 1;", 1), "person(0,0)=0");
            Script.run(fits("p255 1;", 1), "person(0,0)=255");
            Script.run(fits("p254 1;", 1), "person(0,0)=254");
            faulty("p256 1;", 2, 1);
            faulty("p999 1;", 2, 1);
            faulty("p-1 1;", 1, 1);
        });
        Sentence.holds(3, "CHANGES by C, 0 .. 7", () -> {
            Script.run(fits("p1 0;", 1), "person(0,1)=0");
            Script.run(fits("p1 7;", 1), "person(0,1)=7");
            faulty("p1 8;", 2, 3);
            faulty("p1 999;", 2, 3);
            faulty("p1 -1;", 1, 3);
        });
        Sentence.holds(3, "NUMBERS have one to three figures", () -> {
            Script.run(fits("p5 7;", 1), "person(0,0)=5 person(0,1)=7");
            Script.run(fits("p05 07;", 1), "person(0,0)=5 person(0,1)=7");
            Script.run(fits("p005 007;", 1), "person(0,0)=5 person(0,1)=7");
            Script.run(fits("p250 000;", 1), "person(0,0)=250 person(0,1)=0");
            Script.run(fits(TWO + "k000 001;", 2), "remembers(0,1)=3");
            faulty("p0005 7;", 2, 1);
            faulty("p5 0007;", 2, 3);
            faulty("p 7;", 1, 3);
            faulty("p;", 1, 1);
            faulty("p5 ;", 1, 3);
            faulty(TWO + "k;", 1, 11);
        });
    }

    private static void boundsOfPairs() {
        Sentence.holds(3, "both told ahead", () -> {
            fits("p1 1;p1 1;k0 1;", 2);
            fits("p1 1;p1 1;k1 0;", 2);
            fits(EIGHT + "k7 0;k0 7;", 8);
            faulty("p1 1;p1 1;k0 2;", 2, 13);
            faulty("p1 1;p1 1;k2 0;", 2, 11);
            faulty(EIGHT + "k8 0;", 2, 41);
            faulty(EIGHT + "k0 8;", 2, 43);
            faulty("p1 1;k0 1;p1 1;", 2, 8);
            faulty("k0 1;p1 1;p1 1;", 2, 1);
        });
        Sentence.holds(3, "unlike, both told ahead", () -> {
            faulty("p1 1;k0 0;", 4, 8);
            faulty(EIGHT + "k7 7;", 4, 43);
            faulty(EIGHT + "k7 007;", 4, 43);
        });
        Sentence.holds(3, "he remembers P's MARKS as told", () -> {
            Script.run(fits("p0 1;p255 1;k0 1;k1 0;", 2), "remembers(0,1)=255 remembers(1,0)=0");
            Script.run(fits("p0 1;p255 1;k0 1;p9 1;", 3), "remembers(0,1)=255 remembers(1,0)=NONE remembers(2,0)=NONE");
        });
        Sentence.holds(3, "each once", () -> {
            fits(TWO + "k0 1;k1 0;", 2);
            faulty(TWO + "k0 1;k0 1;", 4, 18);
            faulty(TWO + "k0 1;k1 0;k1 0;", 4, 23);
            faulty(TWO + "k0 1;p5 6;k0 2;k0 1;", 4, 28);
            faulty("p0 2;p0 4;k0 1;k0 1;", 4, 18);
        });
    }

    private static void blanks() {
        Sentence.holds(3, "a word is one letter", () -> {
            faulty("pp1 2;", 1, 1);
            faulty(TWO + "kk0 1;", 1, 11);
            faulty("p1 2;;", 1, 5);
            faulty("pk1 2;", 1, 1);
        });
        Sentence.holds(3, "blanks (32) may stand anywhere but within NUMBERS", () -> {
            fits("   p   1   2   ;   p   3   4   ;   k   0   1   ;   ", 2);
            fits(" p 1 2 ; p 3 4 ; k 0 1 ; ", 2);
            faulty("p2 5 5;", 1, 5);
            faulty("p2 55 7;", 2, 3);
            faulty(TWO + "k0 0 1;", 4, 13);
            faulty(TWO + "k0 1 0;", 1, 15);
            faulty("p1\t2;", 1, 2);
            faulty("\np1 2;", 1, 0);
            faulty("p1" + (char) 160 + "2;", 1, 2);
        });
        Sentence.holds(3, "two NUMBERS side by side need one", () -> {
            fits("p12 3;", 1);
            faulty("p123;", 1, 4);
            faulty("p12;", 1, 3);
            faulty("p1234;", 2, 1);
            faulty(TWO + "k01;", 1, 13);
            faulty(TWO + "k10;", 2, 11);
        });
    }

    private static void faultsOfLetters() {
        Sentence.holds(3, "1 it cannot stand there (a letter that is no word).", () -> {
            for (int letter = 0; letter <= 255; letter++) {
                char sign = (char) letter;
                if (sign == ' ') {
                    fits("" + sign, 0);
                    faulty("p" + sign, 1, 2);
                    faulty("p1 2" + sign, 1, 5);
                } else {
                    faulty("" + sign, 1, sign == 'p' || sign == 'k' ? 1 : 0);
                    faulty("p" + sign, 1, sign >= '0' && sign <= '9' ? 2 : 1);
                    endOfClause(sign);
                }
            }
        });
        Sentence.holds(3, "(the end at the text's length)", () -> {
            faulty("p", 1, 1);
            faulty("p  ", 1, 3);
            faulty("p1", 1, 2);
            faulty("p1 ", 1, 3);
            faulty("p1 2", 1, 4);
            faulty("p1 2  ", 1, 6);
            faulty("k", 1, 1);
            faulty(TWO + "k", 1, 11);
            faulty(TWO + "k0", 1, 12);
            faulty(TWO + "k0 1", 1, 14);
            faulty(TWO + "k0 1 ", 1, 15);
            faulty(" ".repeat(239) + "p", 1, 240);
            ParadeRow x = Due.placed("p1 2;p3 4;");
            Due.feed(x, "p1 2");
            Script.run(x, "place()=-11 fault()=4");
            Due.feed(x, "p1 2;p3");
            Script.run(x, "place()=-11 fault()=7");
        });
    }

    private static void endOfClause(char sign) {
        if (sign == ';') {
            fits("p1 2" + sign, 1);
        } else if (sign >= '0' && sign <= '9') {
            faulty("p1 2" + sign, 2, 3);
        } else {
            faulty("p1 2" + sign, 1, 4);
        }
    }

    private static void faultsOfNumbers() {
        Sentence.holds(3, "2 a NUMBER of four figures or more, or out of its bounds", () -> {
            faulty("p1000 1;", 2, 1);
            faulty("p0000 1;", 2, 1);
            faulty("p1 0000;", 2, 3);
            faulty("p10000 1;", 2, 1);
            faulty("p" + "0".repeat(238), 2, 1);
            faulty("p4294967296 1;", 2, 1);
            faulty("p1 18446744073709551616;", 2, 3);
            faulty("p256 1;", 2, 1);
            faulty("p1 8;", 2, 3);
            faulty(TWO + "k0000 1;", 2, 11);
            faulty(TWO + "k0 0001;", 2, 13);
        });
        Sentence.holds(3, "a PERSON that was not told yet (at its first).", () -> {
            faulty("k0 0;", 2, 1);
            faulty("k  0 0;", 2, 3);
            faulty("p1 1;k 12 0;", 2, 7);
            faulty("p1 1;k0   012;", 2, 10);
            faulty("p  256 0;", 2, 3);
            faulty("p0   1000;", 2, 5);
        });
    }

    private static void faultsOfPersons() {
        Sentence.holds(3, "3 a ninth 'p' (at it).", () -> {
            faulty(EIGHT + "p", 3, 40);
            faulty(EIGHT + "   p", 3, 43);
            faulty(EIGHT + "k0 1;p1 1;", 3, 45);
            faulty(EIGHT + "p999 9;", 3, 40);
            faulty(EIGHT + "px", 3, 40);
        });
        Sentence.holds(3, "4 P like W, or known by W already (at the P).", () -> {
            faulty("p1 1;k0   0;", 4, 10);
            faulty("p1 1;k000 00;", 4, 10);
            faulty(TWO + "k0 1;k0    001;", 4, 21);
            faulty(TWO + "k1 0;k01 0;", 4, 19);
        });
    }

    private static void whichFault() {
        Sentence.holds(3, "FAULTS, at the first letter that has one", () -> {
            faulty("x p256 8;", 1, 0);
            faulty("p256 8;", 2, 1);
            faulty("p256x", 2, 1);
            faulty("p256", 2, 1);
            faulty("p1 8x", 2, 3);
            faulty("p1 1;k0 0x", 4, 8);
            faulty("p1 1;k0 0", 4, 8);
            faulty("p1 1;k1 1;", 2, 6);
            faulty("p1 1;k0 0;p256 1;", 4, 8);
            faulty("p1 1;p256 1;k0 0;", 2, 6);
            faulty(EIGHT + "pp", 3, 40);
            faulty(EIGHT + "k0 0;p", 4, 43);
        });
        Sentence.holds(3, "of these the least", () -> {
            faulty("1000", 1, 0);
            faulty("p1 2 1000;", 1, 5);
            faulty(TWO + "k0 1 1000;", 1, 15);
            faulty(EIGHT + "k0p", 1, 42);
            faulty(EIGHT.substring(0, 39) + "p", 1, 39);
            faulty("p1 1;k0 0000;", 2, 8);
            faulty(TWO + "k0 1;k0 0001;", 2, 18);
        });
    }

    private static void place() {
        Sentence.holds(3, "(it is empty then, with a FAULT, too)", () -> {
            ParadeRow x = new ParadeRow();
            Due.feed(x, "p1 2;");
            Script.run(x, "told(1)=5 place()=1 told(1)=0 feed(112)=1 told(1)=1 place()=-11 told(1)=0 place()=0 feed(112)=1");
        });
        Sentence.holds(3, "(YEAR 0, each IS himself", () -> {
            ParadeRow x = Towns.old(60);
            Due.feed(x, TWO);
            Script.run(x, "year(1)=FULL place()=2 told(2)=0 year(1)=1");
            ParadeRow y = Towns.ringOfEight();
            Due.feed(y, EIGHT);
            Script.run(y, "place()=8 told(3)=0 told(4)=0 rings(1)=0");
            for (int p = 0; p < 8; p++) {
                Due.is("person(" + p + ", 2)", y.person(p, 2), p);
            }
        });
        Sentence.holds(3, "nothing SEEN, no BOOK", () -> {
            ParadeRow x = Towns.busy();
            Script.run(x, "told(6)=2 told(7)=2 place()=1 told(6)=0 told(7)=0 judge()=NONE nods(0)=0 honest()=1 tear()=0");
        });
        Sentence.holds(3, "IMAGES, what could be undone are gone", () -> {
            Script.run(Towns.busy(), "keep(1) year(1) told(8)=1 place()=1 told(8)=0 undo()=NOT goBack(0)=NOT goBack(1)=NOT");
        });
        Sentence.holds(3, "THE SEED stays): how many PERSONS", () -> Script.run(Towns.busy(), "place()=1 seed(0)=78"));
        Sentence.holds(3, "becomes THE PLACE", () -> {
            ParadeRow x = Towns.allKnown();
            Due.feed(x, TWO + "k1 0;");
            Script.run(x, "place()=2 told(0)=2 told(5)=1 remembers(0,1)=NONE remembers(1,0)=1 person(2,0)=UNKNOWN");
            Due.feed(x, EIGHT);
            Script.run(x, "place()=8 told(5)=0 person(7,3)=0 person(7,4)=0 person(0,1)=1");
        });
    }

    private static List<Integer> behindFault(String text) {
        ParadeRow x = lively();
        Due.feed(x, text);
        x.place();
        return withoutFault(Picture.of(x));
    }

    /** As busy, but with an empty text. */
    private static ParadeRow lively() {
        ParadeRow x = Towns.steps();
        Script.run(x, "seed(5) parade(4,2,10) keep(1) year(3) mark(0,1) see(4,2,9,0) write(1,1) feed(120) place()");
        return x;
    }

    /** The fault's letter stands behind the 9 told and the 11 of each of 5 persons. */
    private static List<Integer> withoutFault(List<Integer> picture) {
        List<Integer> rest = new ArrayList<>(picture);
        rest.remove(9 + 5 * 11);
        return rest;
    }

    private static void placeWithFault() {
        Sentence.holds(3, "-10 less the number of its FAULT", () -> {
            faulty("x", 1, 0);
            faulty("p256 1;", 2, 1);
            faulty(EIGHT + "p", 3, 40);
            faulty("p1 1;k0 0;", 4, 8);
        });
        Sentence.holds(3, "(all else is as it was)", () -> {
            List<Integer> before = withoutFault(Picture.of(lively()));
            Due.same("behind fault 1", behindFault("x"), before);
            Due.same("behind fault 1 at the end", behindFault("p200 1;p100 2;k0 1"), before);
            Due.same("behind fault 2", behindFault("p200 1;p100 8;"), before);
            Due.same("behind fault 3", behindFault(EIGHT + "p"), before);
            Due.same("behind fault 4", behindFault(TWO + "k0 1;k0 1;"), before);
        });
    }

    private static void fault() {
        Sentence.holds(4, "The letter of the FAULT of the latest place(); NONE.", () -> {
            ParadeRow x = new ParadeRow();
            Script.run(x, "fault()=NONE feed(120) fault()=NONE place()=-11 fault()=0 fault()=0 place()=0 fault()=NONE");
            Due.feed(x, " ".repeat(239) + "x");
            Script.run(x, "fault()=NONE place()=-11 fault()=239");
            Due.feed(x, "p1 2;");
            Script.run(x, "fault()=239 place()=1 fault()=NONE");
        });
        Sentence.holds(4, "The letter of the FAULT of the latest place()", () -> {
            ParadeRow x = Towns.busy();
            Script.run(x, "fault()=0 year(1) undo() goBack(0) keep(1) tear() feed(-1) fault()=0");
        });
    }

    private static void told() {
        Sentence.holds(5, "0 PERSONS, 1 letters of THE TEXT, 2 YEARS, 3 TWO OF ONE, 4 NOBODY (SETS)", () -> {
            Script.run(new ParadeRow(), "told(0)=0 told(1)=0 told(2)=0 told(3)=0 told(4)=0");
            Script.run(Due.placed(EIGHT), "told(0)=8 told(1)=0 told(2)=0 told(3)=0 told(4)=0");
            Script.run(Towns.fullText(), "told(0)=2 told(1)=240");
            Script.run(Towns.old(60), "told(2)=9060");
            Script.run(Towns.eightOfOne(), "told(3)=255 told(4)=254");
            Script.run(Towns.ringOfEight(), "told(3)=0 told(4)=0");
            Script.run(Towns.chainOfEight(), "told(3)=192 told(4)=1");
        });
        Sentence.holds(5, "5 in how many pairs one KNOWS another one", () -> {
            Script.run(Due.placed(EIGHT), "told(5)=0");
            Script.run(Towns.allKnown(), "told(5)=56 forget(7,6) told(5)=55");
        });
        Sentence.holds(5, "6 what is SEEN, 7 entries of THE BOOK, 8 how many can be undone.", () -> {
            Script.run(new ParadeRow(), "told(6)=0 told(7)=0 told(8)=0");
            Script.run(Towns.steps(), "see(4,2,9,0) ".repeat(9) + "told(6)=8");
            Script.run(Towns.steps(), "write(0,0) ".repeat(16) + "told(7)=15");
            Script.run(Towns.steps(), "mark(0,0) ".repeat(19) + "told(8)=19 mark(0,0) told(8)=20 mark(0,0) told(8)=20");
        });
        Sentence.holds(5, "8 how many can be undone. OUTSIDE.", () ->
            Script.refused(Towns::busy, "told(-1)=OUTSIDE told(9)=OUTSIDE told(MIN)=OUTSIDE told(MAX)=OUTSIDE"));
        Sentence.holds(5, "PERSONS (a SET) of whom another one IS the same.", () -> {
            ParadeRow x = Towns.steps();
            Script.run(x, "told(3)=0 parade(4,2,12)=2 told(3)=0 parade(4,2,9)=3 told(3)=12 parade(4,2,3)=1 told(3)=14");
            Script.run(x, "told(4)=10 parade(1,0,24)=3 told(3)=15 told(4)=10 undo() told(3)=14 told(4)=10");
        });
        Sentence.holds(5, "NOBODY: PERSONS (a SET) whom nobody IS.", () ->
            Script.run(Towns.steps(), "told(4)=0 parade(4,2,9)=3 told(4)=8 parade(4,2,3)=1 told(4)=10 undo() undo() told(4)=0"));
    }

    private static void person() {
        Sentence.holds(6, "what = 0 MARKS, 1 CHANGES, 2 who he IS, 3 whom he KNOWS (a SET), 4 who KNOWS him (a SET).", () -> {
            ParadeRow x = Due.placed("p255 7;p0 0;");
            Script.run(x, "person(0,0)=255 person(0,1)=7 person(0,2)=0 person(0,3)=0 person(0,4)=0 person(1,0)=0 person(1,1)=0");
            Script.run(Towns.allKnown(), "person(0,3)=254 person(0,4)=254 person(7,3)=127 person(7,4)=127");
            Script.run(Towns.ringOfEight(), "person(0,2)=1 person(7,2)=0 person(7,3)=126 person(0,4)=2");
        });
        Sentence.holds(6, "UNKNOWN, OUTSIDE.", () -> {
            Script.refused(Towns::busy, Refused.strangers("person(W,0)", "W") + Refused.strangers("person(W,4)", "W"));
            Script.run(Due.placed(EIGHT), "person(0,0)=1 person(7,0)=1 person(-1,0)=UNKNOWN person(8,0)=UNKNOWN");
            Script.refused(Towns::busy, "person(0,-1)=OUTSIDE person(0,5)=OUTSIDE person(4,-1)=OUTSIDE person(4,5)=OUTSIDE");
            Script.refused(Towns::busy, "person(0,MIN)=OUTSIDE person(0,MAX)=OUTSIDE");
        });
        Sentence.holds(6, "of several the first in this order: UNKNOWN", () ->
            Script.refused(Towns::busy, "person(5,5)=UNKNOWN person(-1,-1)=UNKNOWN person(MAX,MAX)=UNKNOWN"));
    }

    private static void remembers() {
        Sentence.holds(7, "NONE: he does not KNOW him.", () -> {
            Script.run(Due.placed("p255 1;p0 1;k0 1;k1 0;"), "remembers(0,1)=0 remembers(1,0)=255 forget(0,1)=0 remembers(0,1)=NONE");
            Script.run(Towns.steps(), "remembers(4,2)=3 remembers(2,4)=NONE remembers(1,0)=0 remembers(0,1)=NONE");
        });
        Sentence.holds(7, "he does not KNOW him. UNKNOWN.", () -> Script.refused(Towns::busy, Refused.pairs("remembers(W,P)")));
        Sentence.holds(7, "one twice, where two are asked", () ->
            Script.refused(Towns::busy, "remembers(0,0)=UNKNOWN remembers(4,4)=UNKNOWN"));
    }
}
