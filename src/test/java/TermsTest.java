/**
 * The sentences that tell a word, read from the document's first line: what the tests of boundary cases do not quote.
 * DocumentTest looks that no sentence is left out by both.
 */
public final class TermsTest {
    /** A number for sentences that stand ahead of all promises. */
    private static final int TERMS = 0;
    private static final String EIGHT_KINDS = "p0 0;p0 1;p0 2;p0 3;p255 4;p255 5;p255 6;p255 7;";

    /** 0 and 3 know 1, whose marks change; 2 has but one mark more than he. */
    private static final String HUSBAND = "p19 0;p6 3;p14 0;p38 0;k0 1;k3 1;";

    private TermsTest() {
    }

    public static void main(String[] args) {
        calls();
        numbers();
        refusals();
        whatIsRefused();
        place();
        years();
        meetings();
        parades();
        sure();
        odds();
        ask();
        rings();
        mask();
        impostor();
        seen();
        showNext();
        lostAndAlike();
        book();
        draws();
        undone();
        images();
        Due.end("TermsTest");
    }

    private static void calls() {
        Sentence.holds(TERMS, "An object is used for at most 512 calls after it has been made", () -> {
            ParadeRow x = new ParadeRow();
            for (int i = 0; i < 256; i++) {
                Script.run(x, "feed(112)=1 place()=-11");
            }
            ParadeRow y = Towns.steps();
            int made = Towns.STEPS.length() + 1;
            for (int i = made; i < 512; i++) {
                Due.is("mark(0, 0), call " + (i + 1), y.mark(0, 0), (i - made + 1) % 2);
            }
            ParadeRow z = Due.placed("p5 0;p5 0;k0 1;");
            for (int i = 0; i < 99; i++) {
                Script.run(z, "keep(0)=1 mark(1,7)=133 parade(0,1,2)=OUTSIDE undo()=0 goBack(0)=1");
            }
        });
    }

    private static void numbers() {
        Sentence.holds(TERMS, "All numbers are whole; / cuts towards 0.", () ->
            Script.run(Towns.steps(), "odds(1,0,29,0)=333333 odds(1,0,29,2)=259259 odds(1,0,29,3)=222222 odds(1,0,29,4)=185185"));
        Sentence.holds(TERMS, "A SET is a whole number, bit k for k.", () -> {
            ParadeRow x = Due.placed("p0 0;");
            int marks = 0;
            for (int k = 0; k < 8; k++) {
                marks += 1 << k;
                Due.is("mark(0, " + k + ")", x.mark(0, k), marks);
            }
            Script.run(Towns.eight(), "person(7,3)=126 person(0,3)=128 person(1,3)=1 person(7,4)=1 person(0,4)=2 person(6,4)=128");
            Script.run(Towns.eight(), "honest()=255 parade(7,1,96)=5 told(3)=34 told(4)=32");
        });
        Sentence.holds(TERMS, "NONE is -1.", () -> {
            Due.is("NONE", ParadeRow.NONE, -1);
            Script.run(Towns.steps(), "remembers(2,4)=-1 meet(2,4)=-1 fault()=-1 judge()=-1 lost(-1)=0 lost(0)=-1 alike(0)=-1 ask(3,9)=-1");
        });
        Sentence.holds(TERMS, "MILLION is 1000000.", () -> {
            Script.run(Towns.eight(), "odds(7,1,6,1)=500000 odds(7,1,6,2)=500000 odds(7,1,30,1)=250000");
            Script.run(Towns.steps(), "odds(4,2,10,1)=500000 odds(4,2,10,3)=500000");
        });
    }

    /** Years, what is seen and the book are full. */
    private static ParadeRow allFull() {
        ParadeRow x = Due.placed("p5 1;p0 3;p0 0;k0 1;");
        Script.run(x, "year(60) ".repeat(150) + "keep(0) year(1)=9001 " + "see(0,1,6,1) ".repeat(8) + "write(0,0) ".repeat(15));
        return x;
    }

    private static void refusals() {
        Sentence.holds(TERMS, "REFUSALS, of several the first in this order: UNKNOWN", () -> {
            Script.run(allFull(), "see(0,1,8,3)=UNKNOWN see(0,1,1,3)=UNKNOWN see(1,0,2,0)=UNKNOWN see(1,0,4,2)=OUTSIDE see(1,0,5,1)=OUTSIDE see(1,0,5,0)=NOT");
            Script.run(allFull(), "see(0,1,6,1)=FULL see(0,1,6,0)=OUTSIDE write(3,0)=UNKNOWN write(0,0)=FULL year(0)=OUTSIDE year(1)=FULL");
            Script.run(Towns.fullText(), "feed(256)=OUTSIDE feed(32)=FULL");
        });
        Sentence.holds(TERMS, "UNKNOWN (a PERSON, IMAGE that there is not", () -> {
            Script.refused(Towns::busy, "person(5,0)=UNKNOWN remembers(0,5)=UNKNOWN remembers(-1,0)=UNKNOWN mark(5,0)=UNKNOWN ring(5)=UNKNOWN nods(5)=UNKNOWN");
            Script.refused(Towns::busy, "write(5,0)=UNKNOWN write(0,5)=UNKNOWN odds(4,2,6,5)=UNKNOWN keep(2)=UNKNOWN keep(-1)=UNKNOWN goBack(2)=UNKNOWN");
        });
        Sentence.holds(TERMS, "one twice, where two are asked; bits of such)", () -> {
            Script.refused(Towns::busy, "remembers(2,2)=UNKNOWN meet(2,2)=UNKNOWN forget(2,2)=UNKNOWN showNext(2,2)=UNKNOWN bestRow(2,2,2)=UNKNOWN");
            Script.refused(Towns::busy, "parade(2,2,3)=UNKNOWN impostor(2,2,1,2,0)=UNKNOWN spoil(4,2,6,2)=UNKNOWN");
            Script.refused(Towns::busy, "parade(4,2,38)=UNKNOWN sure(4,2,38)=UNKNOWN odds(4,2,38,1)=UNKNOWN ask(2,38)=UNKNOWN mask(4,2,38,1)=UNKNOWN");
            Script.refused(Towns::busy, "spoil(4,2,38,1)=UNKNOWN see(4,2,38,1)=UNKNOWN");
        });
        Sentence.holds(TERMS, "OUTSIDE (another number out of its bounds), NOT (not now, as told), FULL.", () -> {
            Script.refused(Towns::busy, "feed(256)=OUTSIDE told(9)=OUTSIDE person(0,5)=OUTSIDE person(0,-1)=OUTSIDE year(61)=OUTSIDE mark(0,8)=OUTSIDE");
            Script.refused(Towns::busy, "bestRow(4,2,9)=OUTSIDE mask(4,2,6,9)=OUTSIDE rings(3)=OUTSIDE alike(61)=OUTSIDE seed(-1)=OUTSIDE");
            Script.refused(Towns::busy, "forget(2,4)=NOT parade(2,4,3)=NOT goBack(1)=NOT");
            Script.refused(Towns::fullText, "feed(32)=FULL");
            Script.refused(TermsTest::allFull, "year(1)=FULL drift(1)=FULL see(0,1,6,1)=FULL write(0,0)=FULL");
        });
    }

    private static void whatIsRefused() {
        Sentence.holds(TERMS, "They are far below all that is counted: -1000000001 and on.", () ->
            Script.run(new ParadeRow(), "ring(0)=-1000000001 told(9)=-1000000002 undo()=-1000000003 " + "feed(32) ".repeat(240) + "feed(32)=-1000000004"));
        Sentence.holds(TERMS, "What is refused changes nothing.", () -> {
            Script.refused(Towns::busy, "feed(-1)=OUTSIDE year(0)=OUTSIDE meet(0,0)=UNKNOWN forget(0,4)=NOT parade(4,2,4)=OUTSIDE mark(0,9)=OUTSIDE");
            Script.refused(Towns::busy, "drift(61)=OUTSIDE see(4,2,6,3)=OUTSIDE write(9,9)=UNKNOWN seed(-5)=OUTSIDE keep(3)=UNKNOWN goBack(1)=NOT");
            Script.refused(Towns::steps, "undo()=NOT goBack(0)=NOT");
        });
    }

    private static void place() {
        Sentence.holds(3, "THE PLACE is told in a text", () -> {
            ParadeRow x = new ParadeRow();
            Due.feed(x, HUSBAND);
            Script.run(x, "told(0)=0 told(1)=33 place()=4 told(0)=4 told(1)=0 told(5)=2");
        });
        Sentence.holds(3, "clauses: 'p' M C ';'", () ->
            Script.run(Due.placed("p200 5;p17 0;"), "person(0,0)=200 person(0,1)=5 person(1,0)=17 person(1,1)=0"));
        Sentence.holds(3, "a SET of 0 to 7", () ->
            Script.run(Due.placed("p1 0;p128 0;"), "mark(0,0)=0 mark(1,7)=0 mark(0,7)=128 mark(1,0)=1"));
        Sentence.holds(3, "'k' W P ';' (PERSON W KNOWS PERSON P", () ->
            Script.run(Due.placed(HUSBAND), "person(0,3)=2 person(3,3)=2 person(1,4)=9 person(1,3)=0 person(2,4)=0 remembers(3,1)=6 remembers(1,3)=NONE"));
        Sentence.holds(3, "THE TEXT (it is empty then, with a FAULT, too) becomes THE PLACE", () -> {
            ParadeRow x = Due.placed(HUSBAND);
            Due.feed(x, "p9 2;");
            Script.run(x, "told(0)=4 place()=1 told(0)=1 person(0,0)=9 person(0,1)=2 told(5)=0 place()=0 told(0)=0");
        });
        Sentence.holds(6, "Of a PERSON: what = 0 MARKS, 1 CHANGES, 2 who he IS, 3 whom he KNOWS (a SET), 4 who KNOWS him (a SET).", () ->
            Script.run(Due.placed(HUSBAND + "k3 2;k2 0;"), "parade(0,1,12)=2 person(2,0)=14 person(1,1)=3 person(2,2)=1 person(2,3)=1 person(3,3)=6 person(1,4)=9"));
        Sentence.holds(7, "What W remembers of P (MARKS); NONE", () ->
            Script.run(Due.placed(HUSBAND), "remembers(0,1)=6 mark(1,0)=7 remembers(0,1)=6 remembers(1,0)=NONE forget(0,1) remembers(0,1)=NONE remembers(3,1)=6"));
    }

    private static void years() {
        Sentence.holds(8, "A YEAR: of each PERSON with CHANGES above 0, by number: MARK YEARS", () -> {
            ParadeRow x = Due.placed(EIGHT_KINDS);
            int[] marks = {0, 0, 0, 0, 255, 255, 255, 255};
            for (int year = 0; year < 20; year++) {
                Due.is("year(1)", x.year(1), year + 1);
                for (int p = 0; p < 8; p++) {
                    marks[p] ^= p == 0 ? 0 : 1 << (year * p + p) % 8;
                    Due.is("marks of " + p + " behind " + (year + 1), x.person(p, 0), marks[p]);
                }
            }
        });
        Sentence.holds(12, "A MARK is TAKEN ON, or lost.", () ->
            Script.run(Due.placed(HUSBAND), "mark(1,0)=7 mark(1,1)=5 mark(1,1)=7 person(1,0)=7 person(0,0)=19 person(2,0)=14 remembers(0,1)=6"));
    }

    private static void meetings() {
        Sentence.holds(9, "APART of two SETS of MARKS: how many MARKS just one of them has.", () -> {
            int[][] apart = {{0, 0}, {1, 1}, {128, 1}, {3, 2}, {129, 2}, {170, 4}, {85, 4}, {127, 7}, {254, 7}, {255, 8}};
            for (int[] one : apart) {
                for (String told : new String[] {"p0 0;p0 0;k0 1;", "p0 0;p255 0;k0 1;", "p0 0;p202 0;k0 1;"}) {
                    ParadeRow x = Due.placed(told);
                    for (int k = 0; k < 8; k++) {
                        if ((one[0] >> k & 1) == 1) {
                            x.mark(1, k);
                        }
                    }
                    Due.is("meet(0, 1) of " + told + ", " + one[0], x.meet(0, 1), one[1]);
                }
            }
        });
        Sentence.holds(9, "MET: by how much it is APART from what he remembered; NONE", () ->
            Script.run(Due.placed(HUSBAND), "year(2) person(1,0)=20 meet(0,1)=2 meet(0,1)=0 remembers(0,1)=20 remembers(3,1)=6 meet(1,0)=NONE meet(1,0)=0"));
    }

    private static void parades() {
        Sentence.holds(11, "A PARADE: W, who KNOWS P, picks of a row (a SET of 2 PERSONS or more, W not among them) the one whose MARKS", () ->
            Script.run(Due.placed(HUSBAND), "parade(0,1,6)=1 parade(0,1,14)=1 year(2) parade(0,1,14)=2 parade(0,1,10)=3 parade(3,1,7)=2 parade(3,1,3)=1"));
        Sentence.holds(11, "A PARADE: who is picked.", () ->
            Script.run(Due.placed(HUSBAND), "parade(3,1,6)=1 person(1,2)=1 year(2) parade(3,1,6)=2 person(2,2)=1 person(1,2)=1"));
        Sentence.holds(5, "TWO OF ONE: PERSONS (a SET) of whom another one IS the same.", () ->
            Script.run(Due.placed(HUSBAND), "told(3)=0 year(2) parade(0,1,6)=2 told(3)=6 told(4)=4 parade(0,1,10)=3 told(3)=14 told(4)=12"));
    }

    private static void sure() {
        Sentence.holds(15, "SURE of a row that has P: 0, if P is not picked", () ->
            Script.run(Towns.steps(), "sure(1,0,29)=3 sure(1,0,17)=5 mark(0,7) sure(1,0,17)=4 sure(1,0,5)=2 mark(0,6) sure(1,0,5)=1 mark(0,5)"
                + " sure(1,0,5)=0 sure(1,0,17)=2"));
        Sentence.holds(15, "is more than that of P (each from what W remembers of P).", () ->
            Script.run(Towns.steps(), "mark(0,7)=128 sure(1,0,17)=4 meet(1,0)=1 sure(1,0,17)=6 sure(1,0,5)=4 mark(4,7) sure(1,0,17)=5"));
        Sentence.holds(15, "`int sure(int w, int p, int row)`: SURE.", () ->
            Script.run(Due.placed(HUSBAND), "sure(0,1,6)=2 sure(3,1,3)=4 year(2) sure(0,1,6)=0 sure(3,1,3)=2"));
        Sentence.holds(16, "the row by which P is picked, SURE most", () -> {
            Script.run(Towns.steps(), "bestRow(1,0,2)=17 bestRow(1,0,3)=25 bestRow(1,0,4)=29");
            Script.run(Due.placed(HUSBAND), "bestRow(3,1,2)=3 bestRow(3,1,3)=7 bestRow(0,1,2)=6 year(2) bestRow(3,1,2)=3 bestRow(0,1,2)=NONE");
        });
    }

    private static void odds() {
        Sentence.holds(17, "ODDS that W picks one of a row as P: WEIGHT of each in it: 9 less APART, of what W remembers; of a MILLION: his", () -> {
            Script.run(Due.placed(HUSBAND), "odds(0,1,6,1)=529411 odds(0,1,6,2)=470588 odds(0,1,14,1)=360000 odds(0,1,14,2)=320000 odds(0,1,14,3)=320000");
            Script.run(Due.placed(HUSBAND), "year(2) odds(0,1,6,1)=466666 odds(0,1,6,2)=533333 meet(0,1) odds(0,1,6,1)=600000 odds(0,1,6,2)=400000");
        });
    }

    private static void ask() {
        Sentence.holds(18, "ASK for P in a row that has P: of those who KNOW P", () ->
            Script.run(Towns.steps(), "ask(2,6)=0 mark(2,7) ask(2,6)=NONE meet(3,2)=1 ask(2,6)=3 ask(2,7)=3 ask(2,15)=NONE meet(0,2) ask(2,6)=0"));
    }

    private static void rings() {
        Sentence.holds(19, "RING of a PERSON: the fewest steps", () ->
            Script.run(Due.placed("p0 0;p0 0;p0 0;p9 0;k3 0;k3 1;k3 2;"), "parade(3,1,3)=0 mark(0,7) parade(3,2,6)=1 ring(0)=NONE mark(1,7) parade(3,0,6)=2"
                + " ring(0)=3 ring(1)=3 ring(2)=3 ring(3)=1 rings(0)=3"));
    }

    private static void mask() {
        Sentence.holds(21, "MASK for P, so that SURE of a row that has P is m", () ->
            Script.run(Towns.steps(), "mask(1,0,5,1)=0 mask(1,0,5,3)=0 mask(1,0,5,4)=NONE mark(0,7) mask(1,0,5,2)=0 mask(1,0,5,3)=128 mark(0,3)"
                + " mask(1,0,5,1)=0 mask(1,0,5,2)=8 mask(1,0,5,3)=136"));
        Sentence.holds(22, "SPOIL: likewise the fewest MARKS of another one of a row", () ->
            Script.run(Towns.steps(), "spoil(1,0,20,2)=0 spoil(1,0,20,4)=7 spoil(1,0,21,4)=NONE spoil(1,0,24,4)=3 mark(0,7) spoil(1,0,21,4)=15"));
        Sentence.holds(22, "SPOIL, by X of the row; NONE.", () ->
            Script.run(Due.placed(HUSBAND), "spoil(0,1,6,2)=NONE year(2) spoil(0,1,6,2)=0 spoil(0,1,14,3)=32 spoil(0,1,14,2)=0 mark(1,4) mark(1,1) spoil(0,1,14,3)=NONE"));
    }

    private static void impostor() {
        Sentence.holds(23, "IMPOSTOR: rows (SETS of n PERSONS", () ->
            Script.run(Towns.steps(), "impostor(1,0,2,2,0)=2 impostor(1,0,2,2,1)=12 impostor(1,0,2,3,0)=1 impostor(1,0,2,3,1)=28 impostor(1,0,4,2,0)=0"
                + " impostor(1,0,4,2,1)=NONE impostor(1,0,0,2,0)=3 impostor(1,0,0,2,1)=5"));
    }

    private static void seen() {
        Sentence.holds(26, "W picked X of a row as P (as all is now).", () ->
            Script.run(Towns.steps(), "see(1,0,12,2)=1 forget(1,0) see(1,0,12,2)=NOT told(6)=1 meet(1,0) see(1,0,12,3)=2 nods(1)=1 person(3,2)=3 told(8)=2"));
        Sentence.holds(28, "NODS of W: how many of SEEN", () ->
            Script.run(Towns.steps(), "see(1,0,12,2) see(1,0,12,3) see(4,2,3,0) nods(1)=1 mark(2,7) mark(2,6) nods(1)=1 see(1,0,12,3) nods(1)=1 undo() undo() nods(1)=2"
                + " nods(4)=1 nods(2)=0"));
        Sentence.holds(27, "`int honest()`: HONEST.", () ->
            Script.run(Due.placed(HUSBAND), "honest()=15 see(0,1,6,2)=1 honest()=14 see(3,1,6,1)=2 honest()=14 year(2) honest()=7 undo() honest()=14"));
    }

    private static void showNext() {
        Sentence.holds(29, "SHOW NEXT for W and P: the row of 3 PERSONS (a SET, without W) in which the greatest APART", () ->
            Script.run(Towns.steps(), "showNext(1,0)=21 mark(3,7) mark(3,6) showNext(1,0)=13 mark(0,4) showNext(1,0)=13 meet(1,0) showNext(1,0)=13"));
    }

    private static void lostAndAlike() {
        Sentence.holds(24, "from P's MARKS now: how many; the i-th; NONE.", () ->
            Script.run(Towns.steps(), "mark(0,7) mark(0,6) mark(0,5) lost(NONE)=1 lost(0)=10 lost(1)=NONE mark(2,7) mark(2,6) mark(2,5) lost(NONE)=4"
                + " lost(0)=2 lost(1)=10 lost(2)=32 lost(3)=42 lost(4)=NONE meet(3,2) lost(2)=42 lost(NONE)=3"));
        Sentence.holds(24, "LOST: pairs (10 times W and P; rising)", () ->
            Script.run(Due.placed(HUSBAND), "year(3) lost(NONE)=2 lost(0)=1 lost(1)=31 meet(0,1)=3 lost(NONE)=1 lost(0)=31"));
        Sentence.holds(25, "(0 .. 60): the first pair of PERSONS", () ->
            Script.run(Due.placed("p4 0;p4 2;"), "alike(0)=1 alike(1)=NONE alike(7)=NONE alike(8)=1 alike(56)=1 alike(60)=NONE year(3) alike(0)=NONE alike(5)=1"));
        Sentence.holds(25, "ALIKE; NONE. OUTSIDE.", () ->
            Script.run(Due.placed("p2 0;p6 0;p6 2;p2 0;"), "alike(0)=3 alike(60)=3 mark(0,7) alike(0)=12 alike(1)=23 alike(2)=NONE alike(61)=OUTSIDE alike(-1)=OUTSIDE"));
    }

    private static void book() {
        Sentence.holds(32, "THE BOOK (15 at most) tells who PERSONS are: WRONG", () ->
            Script.run(Towns.steps(), "write(0,0)=1 write(1,2)=2 judge()=1 parade(4,2,3)=1 judge()=NONE undo() judge()=1 told(7)=2"));
        Sentence.holds(32, "`int judge()`: WRONG; NONE.", () ->
            Script.run(Due.placed(HUSBAND), "judge()=NONE write(2,2) write(1,1) judge()=NONE year(2) parade(0,1,6)=2 judge()=0 tear()=2 judge()=NONE"));
    }

    private static void draws() {
        Sentence.holds(13, "BY DRAWS: THE SEED (0 at first: each DRAW it becomes", () ->
            Script.run(Due.placed("p0 1;p0 1;"), "drift(1)=1 seed(1406932606)=1406932606 drift(1)=2 seed(0)=1449466924"));
        Sentence.holds(13, "left over by n): n YEARS: ahead of each", () ->
            Script.run(Due.placed("p0 1;p0 1;"), "drift(1)=1 told(5)=0 drift(1)=2 told(5)=1 remembers(0,1)=2 person(1,0)=6 drift(1)=3 remembers(0,1)=6"
                + " remembers(1,0)=NONE drift(3)=6 told(5)=2 remembers(1,0)=31 remembers(0,1)=6"));
    }

    private static void undone() {
        Sentence.holds(14, "UNDONE: the latest of year(), meet(), forget(), parade(), mark(), drift()", () -> {
            ParadeRow x = Due.placed(HUSBAND);
            Script.run(x, "year(2)=2 meet(2,1)=NONE forget(3,1)=6 parade(0,1,6)=2 mark(2,7)=142 drift(9)=11 seed(5) told(8)=6");
            Script.run(x, "undo()=5 told(2)=2 person(2,0)=142 undo()=4 person(2,0)=14 person(2,2)=1 undo()=3 person(2,2)=2 told(3)=0");
            Script.run(x, "remembers(3,1)=NONE undo()=2 remembers(3,1)=6 told(5)=3 undo()=1 told(5)=2 undo()=0 told(2)=0 person(1,0)=6 seed(0)=5");
        });
    }

    private static void images() {
        Sentence.holds(34, "(nothing can be undone then): 1. UNKNOWN.", () ->
            Script.run(Due.placed(HUSBAND), "year(1)=1 keep(2)=UNKNOWN told(8)=1 keep(1)=1 told(8)=0 year(5)=6 keep(0)=1 goBack(1)=1 told(2)=1 goBack(0)=1 told(2)=6"));
    }
}
