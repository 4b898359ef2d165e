/** Promises 26 to 32: a test for each sentence that names a boundary case of what is seen, and of the book. */
public final class SeenBoundsTest {
    private SeenBoundsTest() {
    }

    public static void main(String[] args) {
        see();
        refusedSee();
        honest();
        nods();
        showNext();
        write();
        tear();
        judge();
        Sentence.end("SeenBoundsTest", 26, 32);
    }

    private static ParadeRow eightSeen() {
        ParadeRow x = Towns.busy();
        Script.run(x, "see(4,2,9,0) see(4,2,9,3) see(0,2,24,4) see(0,2,24,3) see(1,0,24,3) see(3,2,6,2)");
        return x;
    }

    private static ParadeRow bookFull() {
        ParadeRow x = Towns.busy();
        Script.run(x, "write(0,0) ".repeat(12) + "write(4,3)");
        return x;
    }

    private static void see() {
        Sentence.holds(26, "SEEN (8 at most)", () -> {
            Script.run(Towns.steps(), "told(6)=0 see(4,2,9,0)=1 see(4,2,9,0)=2 see(4,2,9,3)=3 see(0,2,10,3)=4 see(1,0,24,3)=5 see(3,2,6,2)=6"
                + " see(4,2,15,1)=7 told(6)=7 see(4,2,15,2)=8 told(6)=8 see(4,2,15,2)=FULL told(6)=8");
            Script.refused(SeenBoundsTest::eightSeen, "see(4,2,9,0)=FULL see(0,2,24,4)=FULL");
        });
        Sentence.holds(26, "W picked X of a row as P", () -> {
            Script.run(Towns.steps(), "see(4,2,6,2)=1 see(4,2,6,1)=2 see(4,2,3,0)=3 see(4,2,3,1)=4 see(4,2,15,3)=5 nods(4)=3");
            Script.run(Towns.eight(), "see(0,7,254,7)=1 see(0,7,254,1)=2 see(7,1,127,0)=3 see(7,1,127,6)=4 nods(0)=1 nods(7)=1 honest()=126");
        });
    }

    private static void refusedSee() {
        Sentence.holds(26, "SEEN: how much. UNKNOWN", () -> {
            Script.refused(Towns::busy, Refused.pairs("see(W,P,ROW,1)") + Refused.rows("see(W,P,ROW,0)"));
            Script.refused(Towns::busy, Refused.strangers("see(4,2,6,X)", "X"));
            Script.refused(Towns::nobody, "see(0,1,3,0)=UNKNOWN");
        });
        Sentence.holds(26, "OUTSIDE: fewer than 2 in the row, X not in it; NOT: W does not KNOW P; FULL (8).", () -> {
            Script.refused(Towns::busy, "see(4,2,0,2)=OUTSIDE see(4,2,4,2)=OUTSIDE see(4,2,1,2)=OUTSIDE see(4,2,6,0)=OUTSIDE see(4,2,6,3)=OUTSIDE see(4,2,6,4)=OUTSIDE");
            Script.refused(Towns::busy, "see(2,4,3,0)=NOT see(2,4,17,4)=NOT see(0,1,6,1)=NOT");
        });
        Sentence.holds(26, "of several the first in this order", () -> {
            Script.refused(Towns::busy, "see(4,2,4,5)=UNKNOWN see(4,2,32,2)=UNKNOWN see(4,2,16,2)=UNKNOWN see(2,2,6,0)=UNKNOWN see(2,4,7,0)=UNKNOWN");
            Script.refused(Towns::busy, "see(2,4,3,5)=UNKNOWN see(2,4,3,3)=OUTSIDE see(2,4,1,0)=OUTSIDE see(2,4,0,0)=OUTSIDE");
            Script.refused(SeenBoundsTest::eightSeen, "see(5,2,9,0)=UNKNOWN see(4,2,9,5)=UNKNOWN see(4,2,25,0)=UNKNOWN see(4,2,9,1)=OUTSIDE see(4,2,1,0)=OUTSIDE see(2,4,9,0)=NOT");
        });
    }

    private static void honest() {
        Sentence.holds(27, "HONEST: PERSONS (a SET) whose NODS are 0.", () -> {
            Script.run(Towns.nobody(), "honest()=0");
            Script.run(Due.placed("p1 1;"), "honest()=1");
            Script.run(Towns.eight(), "honest()=255 see(7,1,3,0) honest()=255 see(7,1,3,1) honest()=127 see(0,7,192,7) honest()=126");
            Script.run(Towns.steps(), "honest()=31 see(4,2,6,1) honest()=15 see(0,2,6,1) see(1,0,24,4) see(3,2,6,1) honest()=4 tear() honest()=31");
        });
        Sentence.holds(27, "TRIED from now; nothing changes by it.", () -> Script.tried(Towns::busy, "honest()=30"));
    }

    private static void nods() {
        Sentence.holds(28, "how many of SEEN by him are otherwise than he would pick now", () -> {
            Script.run(Towns.steps(), "nods(4)=0 " + "see(4,2,6,1) ".repeat(8) + "nods(4)=8 nods(0)=0 meet(4,2)=0 nods(4)=8");
            Script.run(Towns.steps(), "see(4,2,6,2) see(4,2,6,1) nods(4)=1 mark(2,2) nods(4)=1 mark(2,7) nods(4)=1 undo() undo() nods(4)=1");
            Script.run(Towns.steps(), "see(4,2,6,2) nods(4)=0 mark(2,2) nods(4)=1 meet(4,2) nods(4)=0 undo() nods(4)=1 undo() nods(4)=0");
        });
        Sentence.holds(28, "(one who does not KNOW P now would pick nobody)", () ->
            Script.run(Towns.steps(), "see(4,2,6,2) see(4,2,6,1) see(1,0,24,3) nods(4)=1 forget(4,2) nods(4)=2 nods(1)=0 honest()=15 undo() nods(4)=1 honest()=15"
                + " forget(1,0) nods(1)=1 meet(1,0) nods(1)=0"));
        Sentence.holds(28, "NODS. UNKNOWN.", () -> {
            Script.refused(Towns::busy, Refused.strangers("nods(W)", "W"));
            Script.refused(Towns::nobody, "nods(0)=UNKNOWN");
            Script.run(Towns.eight(), "nods(7)=0 nods(8)=UNKNOWN nods(-1)=UNKNOWN");
        });
        Sentence.holds(28, "nothing changes by it", () -> Script.tried(Towns::busy, "nods(4)=0 nods(0)=1 nods(2)=0"));
    }

    private static void showNext() {
        Sentence.holds(29, "the row of 3 PERSONS (a SET, without W)", () -> {
            Script.run(Due.placed("p0 0;p1 0;p3 0;p7 0;k0 1;k3 1;k1 0;"), "showNext(0,1)=14 showNext(3,1)=7 showNext(1,0)=13");
            Script.run(Towns.steps(), "showNext(4,2)=7 showNext(0,2)=22 showNext(1,0)=21");
        });
        Sentence.holds(29, "the greatest APART from what W remembers of P, less the least, is greatest", () -> {
            Script.run(Due.placed("p1 0;p1 0;p1 0;p255 0;p0 0;p0 0;k5 4;"), "showNext(5,4)=25");
            Script.run(Due.placed("p255 0;p255 0;p0 0;p255 0;p0 0;p0 0;k5 4;"), "showNext(5,4)=7");
            Script.run(Due.placed("p5 0;p5 0;p5 0;p4 0;p5 0;k4 0;"), "showNext(4,0)=11");
        });
        Sentence.holds(29, "is greatest; of like ones the least SET; NONE: not so many.", () -> {
            Script.run(Due.placed("p0 0;p1 0;k0 1;"), "showNext(0,1)=NONE");
            Script.run(Due.placed("p0 0;p1 0;p3 0;k0 1;"), "showNext(0,1)=NONE");
            Script.run(Due.placed("p0 0;p0 0;p0 0;p0 0;k1 0;"), "showNext(1,0)=13");
            Script.run(Towns.eight(), "showNext(7,1)=7 showNext(0,7)=14 showNext(1,0)=13 mark(6,0) showNext(7,1)=67 showNext(0,7)=70");
        });
        Sentence.holds(29, "SHOW NEXT; NONE. UNKNOWN, NOT: W does not KNOW P.", () -> {
            Script.refused(Towns::busy, Refused.pairs("showNext(W,P)"));
            Script.refused(Towns::busy, "showNext(2,4)=NOT showNext(0,1)=NOT showNext(4,3)=NOT");
            Script.refused(() -> Due.placed("p0 0;p1 0;k0 1;"), "showNext(1,0)=NOT showNext(1,2)=UNKNOWN");
        });
        Sentence.holds(29, "nothing changes by it", () -> Script.tried(Towns::busy, "showNext(4,2)=7"));
    }

    private static void write() {
        Sentence.holds(30, "THE BOOK (15 at most)", () -> {
            ParadeRow x = Towns.steps();
            for (int i = 1; i <= 15; i++) {
                Script.run(x, "write(" + i % 5 + "," + i % 4 + ")=" + i + " told(7)=" + i);
            }
            Script.run(x, "write(0,0)=FULL told(7)=15");
            Script.refused(SeenBoundsTest::bookFull, "write(0,0)=FULL write(4,0)=FULL");
        });
        Sentence.holds(30, "An entry behind THE BOOK: how many. UNKNOWN, FULL (15).", () -> {
            Script.refused(Towns::busy, Refused.strangers("write(P,0)", "P") + Refused.strangers("write(0,P)", "P"));
            Script.refused(SeenBoundsTest::bookFull, "write(5,0)=UNKNOWN write(0,5)=UNKNOWN write(-1,0)=UNKNOWN write(0,-1)=UNKNOWN");
            Script.refused(Towns::nobody, "write(0,0)=UNKNOWN");
            Script.run(Towns.eight(), "write(7,7)=1 write(0,7)=2 write(7,0)=3 write(8,0)=UNKNOWN write(0,8)=UNKNOWN told(7)=3");
        });
    }

    private static void tear() {
        Sentence.holds(31, "Nothing SEEN, THE BOOK is empty: how much both had.", () -> {
            Script.run(Towns.nobody(), "tear()=0");
            Script.run(Towns.steps(), "tear()=0 see(4,2,6,1) tear()=1 write(0,1) tear()=1 told(6)=0 told(7)=0");
            ParadeRow x = Towns.steps();
            Script.run(x, "see(4,2,6,1) ".repeat(8) + "write(0,1) ".repeat(15) + "see(4,2,6,1)=FULL write(0,1)=FULL");
            Script.run(x, "tear()=23 told(6)=0 told(7)=0 nods(4)=0 judge()=NONE honest()=31 tear()=0 see(4,2,6,1)=1 write(0,1)=1 tear()=2");
            Script.run(Towns.busy(), "tear()=4 told(8)=2 told(1)=5 undo()=1");
        });
    }

    private static void judge() {
        Sentence.holds(32, "WRONG: the first that is otherwise now; NONE.", () -> {
            Script.run(Towns.nobody(), "judge()=NONE");
            Script.run(Towns.steps(), "judge()=NONE write(0,0) judge()=NONE write(0,1) judge()=1 write(0,2) judge()=1");
            Script.run(Towns.steps(), "write(4,3) judge()=0 write(4,4) judge()=0");
            Script.run(Towns.steps(), "write(1,1) ".repeat(14) + "judge()=NONE write(3,2)=15 judge()=14 parade(4,2,9)=3 judge()=NONE"
                + " parade(4,2,10)=1 judge()=0 undo() judge()=NONE undo() judge()=14");
        });
        Sentence.holds(32, "What has a number has it from 0 on, as it comes.", () ->
            Script.run(Towns.steps(), "write(0,0) write(1,1) write(2,3) judge()=2 tear() write(2,3) judge()=0"));
        Sentence.holds(32, "nothing changes by it", () -> Script.tried(Towns::busy, "judge()=0"));
    }
}
