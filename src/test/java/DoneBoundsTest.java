import java.util.List;

/** Promises 8 to 14 and section 2: a test for each sentence that names a boundary case. */
public final class DoneBoundsTest {
    private static final String NO_YEARS = "@(0)=OUTSIDE @(61)=OUTSIDE @(-1)=OUTSIDE @(MIN)=OUTSIDE @(MAX)=OUTSIDE";

    private DoneBoundsTest() {
    }

    public static void main(String[] args) {
        year();
        whatAYearChanges();
        meet();
        forget();
        parade();
        refusedParades();
        mark();
        drift();
        draws();
        meetingsByDraws();
        undo();
        whatIsUndone();
        Sentence.end("DoneBoundsTest", 8, 14);
    }

    private static ParadeRow oldFull() {
        return Towns.old(1);
    }

    private static void year() {
        Sentence.holds(8, "n YEARS (1 .. 60): YEARS.", () -> {
            Script.run(Towns.steps(), "year(1)=1 told(2)=1 year(60)=61 told(2)=61 year(2)=63 year(59)=122");
            Script.refused(Towns::busy, NO_YEARS.replace("@", "year"));
        });
        Sentence.holds(8, "NOT: no PERSONS; FULL", () -> {
            Script.refused(Towns::nobody, "year(1)=NOT year(60)=NOT");
            Script.run(Towns.steps(), "place()=0 year(1)=NOT");
        });
        Sentence.holds(8, "FULL: YEARS are above 9000.", () -> {
            Script.run(Towns.old(0), "told(2)=9000 year(1)=9001 year(1)=FULL told(2)=9001 undo()=0 year(60)=9060 year(60)=FULL");
            Script.refused(DoneBoundsTest::oldFull, "year(1)=FULL year(60)=FULL");
        });
        Sentence.holds(8, "of several the first in this order", () -> {
            Script.refused(Towns::nobody, NO_YEARS.replace("@", "year"));
            Script.refused(DoneBoundsTest::oldFull, "year(0)=OUTSIDE year(61)=OUTSIDE");
        });
        Sentence.holds(8, "YEARS are counted.", () ->
            Script.run(Towns.steps(), "told(2)=0 year(60) year(60) told(2)=120 meet(0,1) mark(0,0) told(2)=120 undo() undo() undo() told(2)=60"));
    }

    private static void whatAYearChanges() {
        Sentence.holds(8, "of each PERSON with CHANGES above 0", () ->
            Script.run(Due.placed("p85 0;p0 1;p0 0;p0 7;"), "year(1) person(0,0)=85 person(1,0)=2 person(2,0)=0 person(3,0)=8"
                + " year(60) person(0,0)=85 person(2,0)=0"));
        Sentence.holds(8, "MARK YEARS (before it) times CHANGES and his number, left over by 8", () -> {
            ParadeRow x = Due.placed("p0 1;p0 7;p0 0;p0 0;p0 0;p0 0;p0 0;p0 7;");
            Script.run(x, "year(1) person(0,0)=1 person(1,0)=2 person(7,0)=128");
            Script.run(x, "year(1) person(0,0)=3 person(1,0)=3 person(7,0)=192");
            Script.run(x, "year(6) person(0,0)=255 person(1,0)=255 person(7,0)=255");
            Script.run(x, "year(1) person(0,0)=254 person(1,0)=253 person(7,0)=127");
            Script.run(Due.placed("p0 4;p0 2;"), "year(2) person(0,0)=17 person(1,0)=10 year(2) person(0,0)=0 person(1,0)=170");
        });
        Sentence.holds(8, "is taken on, or lost if he has it.", () ->
            Script.run(Due.placed("p255 1;p0 1;"), "year(1) person(0,0)=254 person(1,0)=2 year(7) person(0,0)=0 person(1,0)=255"
                + " year(8) person(0,0)=255 person(1,0)=0"));
        Sentence.holds(8, "YEARS (before it)", () -> {
            ParadeRow x = Due.placed("p0 1;");
            Script.run(x, "year(60) ".repeat(150) + "told(2)=9000 person(0,0)=255 year(1)=9001 person(0,0)=254");
            ParadeRow y = Due.placed("p0 3;");
            Script.run(y, "year(60) ".repeat(149) + "year(59) keep(0) told(2)=8999 person(0,0)=223 year(1) person(0,0)=255");
        });
    }

    private static void meet() {
        Sentence.holds(9, "by how much it is APART from what he remembered", () -> {
            Script.run(Due.placed("p0 0;p0 0;k0 1;"), "meet(0,1)=0 mark(1,0) meet(0,1)=1 meet(0,1)=0 mark(1,7) mark(1,3) meet(0,1)=2");
            Script.run(Due.placed("p0 1;p0 1;k0 1;"), "year(8) meet(0,1)=8 remembers(0,1)=255 year(4) meet(0,1)=4");
        });
        Sentence.holds(9, "NONE: he did not KNOW him.", () -> {
            Script.run(Due.placed("p0 0;p0 0;"), "meet(0,1)=NONE remembers(0,1)=0 meet(0,1)=0 meet(1,0)=NONE told(5)=2");
            Script.run(Towns.steps(), "forget(4,2) meet(4,2)=NONE meet(4,2)=0");
        });
        Sentence.holds(9, "MET: W remembers P's MARKS as they are now.", () ->
            Script.run(Towns.steps(), "mark(4,7) mark(4,0) meet(0,4)=NONE remembers(0,4)=142 mark(4,0) remembers(0,4)=142"
                + " remembers(4,0)=NONE remembers(0,2)=3"));
        Sentence.holds(9, "he did not KNOW him. UNKNOWN.", () -> {
            Script.refused(Towns::busy, Refused.pairs("meet(W,P)"));
            Script.refused(Towns::nobody, "meet(0,1)=UNKNOWN meet(0,0)=UNKNOWN");
            Script.run(Towns.allKnown(), "meet(7,0)=0 meet(0,7)=0 meet(0,8)=UNKNOWN meet(8,0)=UNKNOWN meet(-1,0)=UNKNOWN");
        });
    }

    private static void forget() {
        Sentence.holds(10, "FORGOTTEN: what he remembered.", () ->
            Script.run(Due.placed("p0 0;p255 0;k0 1;k1 0;"), "mark(1,0) forget(0,1)=255 forget(1,0)=0 told(5)=0"));
        Sentence.holds(10, "FORGOTTEN: W KNOWS P no more.", () ->
            Script.run(Towns.steps(), "forget(4,2)=3 remembers(4,2)=NONE person(4,3)=0 person(2,4)=9 told(5)=3 parade(4,2,3)=NOT"));
        Sentence.holds(10, "UNKNOWN, NOT: he does not KNOW him.", () -> {
            Script.refused(Towns::busy, Refused.pairs("forget(W,P)"));
            Script.refused(Towns::busy, "forget(2,4)=NOT forget(0,1)=NOT forget(0,4)=NOT");
            Script.run(Towns.steps(), "forget(1,0)=0 forget(1,0)=NOT told(8)=1 told(5)=3");
        });
    }

    private static void parade() {
        Sentence.holds(11, "a SET of 2 PERSONS or more, W not among them", () -> {
            Script.run(Towns.steps(), "parade(4,2,6)=2 parade(4,2,15)=2 parade(4,2,3)=1 parade(0,2,24)=3 parade(0,2,30)=2");
            Script.run(Towns.eight(), "parade(7,1,127)=0 parade(0,7,254)=1 parade(0,7,192)=6");
        });
        Sentence.holds(11, "whose MARKS are least APART from what he remembers of P", () -> {
            Script.run(Due.placed("p255 0;p254 0;p0 0;k2 0;"), "mark(0,7) mark(0,6) parade(2,0,3)=1 person(1,2)=0 person(0,2)=0");
            Script.run(Due.placed("p0 0;p255 0;p127 0;p0 0;k3 0;"), "parade(3,0,6)=2 parade(3,0,7)=0");
        });
        Sentence.holds(11, "of like ones the least: who is picked", () -> {
            Script.run(Towns.steps(), "parade(4,2,10)=1 mark(2,2) parade(4,2,14)=1 parade(4,2,12)=2");
            Script.run(Towns.eight(), "parade(1,0,252)=2 parade(1,0,192)=6 parade(1,0,253)=0");
        });
        Sentence.holds(11, "IS P from then on, whoever else is.", () ->
            Script.run(Towns.steps(), "parade(4,2,10)=1 person(1,2)=2 person(2,2)=2 year(60) person(1,2)=2 parade(1,0,24)=3 person(3,2)=0"
                + " person(0,2)=0 parade(4,2,11)=1 parade(0,2,24)=3 person(3,2)=2"));
        Sentence.holds(11, "At first each IS himself.", () -> {
            ParadeRow x = Towns.eight();
            for (int p = 0; p < 8; p++) {
                Due.is("person(" + p + ", 2)", x.person(p, 2), p);
            }
        });
    }

    private static void refusedParades() {
        Sentence.holds(11, "UNKNOWN (bits of none, of W; W like P)", () -> {
            Script.refused(Towns::busy, Refused.pairs("parade(W,P,ROW)") + Refused.rows("parade(W,P,ROW)"));
            Script.refused(Towns::nobody, "parade(0,1,3)=UNKNOWN parade(0,1,0)=UNKNOWN");
            Script.run(Towns.eight(), "parade(0,7,128)=OUTSIDE parade(0,7,384)=UNKNOWN parade(0,7,256)=UNKNOWN parade(0,7,129)=UNKNOWN");
        });
        Sentence.holds(11, "OUTSIDE: fewer than 2 in the row; NOT: W does not KNOW P.", () -> {
            Script.refused(Towns::busy, "parade(4,2,0)=OUTSIDE parade(4,2,4)=OUTSIDE parade(4,2,1)=OUTSIDE parade(0,2,16)=OUTSIDE");
            Script.refused(Towns::busy, "parade(2,4,3)=NOT parade(0,1,6)=NOT parade(4,3,15)=NOT");
        });
        Sentence.holds(11, "of several the first in this order", () -> {
            Script.refused(Towns::busy, "parade(4,2,32)=UNKNOWN parade(5,2,0)=UNKNOWN parade(2,2,1)=UNKNOWN parade(4,2,16)=UNKNOWN");
            Script.refused(Towns::busy, "parade(2,4,35)=UNKNOWN parade(2,4,7)=UNKNOWN parade(2,4,4)=UNKNOWN");
            Script.refused(Towns::busy, "parade(2,4,0)=OUTSIDE parade(2,4,8)=OUTSIDE");
        });
    }

    private static void mark() {
        Sentence.holds(12, "A MARK (0 .. 7) TAKEN ON, or lost: MARKS.", () -> {
            Script.run(Due.placed("p0 0;p255 0;"), "mark(0,0)=1 mark(0,7)=129 mark(0,0)=128 mark(0,7)=0 mark(1,7)=127 mark(1,0)=126 mark(1,7)=254");
            Script.refused(Towns::busy, "mark(0,-1)=OUTSIDE mark(0,8)=OUTSIDE mark(4,8)=OUTSIDE mark(0,32)=OUTSIDE mark(0,39)=OUTSIDE");
            Script.refused(Towns::busy, "mark(0,MIN)=OUTSIDE mark(0,MAX)=OUTSIDE");
        });
        Sentence.holds(12, "MARKS. UNKNOWN, OUTSIDE.", () -> {
            Script.refused(Towns::busy, Refused.strangers("mark(P,0)", "P") + Refused.strangers("mark(P,8)", "P"));
            Script.refused(Towns::nobody, "mark(0,0)=UNKNOWN");
            Script.run(Towns.eight(), "mark(7,7)=128 mark(8,7)=UNKNOWN mark(-1,7)=UNKNOWN");
        });
    }

    private static void drift() {
        Sentence.holds(13, "n YEARS (1 .. 60) BY DRAWS: YEARS.", () -> {
            Script.run(Towns.steps(), "drift(1)=1 drift(60)=61 told(2)=61");
            Script.refused(Towns::busy, NO_YEARS.replace("@", "drift"));
        });
        Sentence.holds(13, "OUTSIDE, NOT: no PERSONS; FULL", () -> {
            Script.refused(Towns::nobody, "drift(1)=NOT drift(60)=NOT");
            Script.refused(Towns::nobody, NO_YEARS.replace("@", "drift"));
        });
        Sentence.holds(13, "FULL: YEARS are above 9000.", () -> {
            Script.run(Towns.old(0), "drift(1)=9001 drift(1)=FULL undo()=0 drift(60)=9060 drift(60)=FULL");
            Script.refused(DoneBoundsTest::oldFull, "drift(1)=FULL drift(60)=FULL drift(0)=OUTSIDE drift(61)=OUTSIDE");
        });
    }

    private static long next(long seed) {
        return (seed * 1103515245L + 12345L) % 2147483648L;
    }

    private static void draws() {
        Sentence.holds(13, "it becomes it times 1103515245 and 12345, left over by 2 to the 31", () -> {
            for (int v : new int[] {0, 1, 2, 1073741823, 1073741824, 2147483646, 2147483647}) {
                ParadeRow x = Towns.steps();
                x.seed(v);
                x.drift(1);
                Due.is("the seed behind drift(1) from " + v, x.seed(0), next(next(v)));
            }
        });
        Sentence.holds(13, "THE SEED (0 at first", () -> {
            ParadeRow x = Towns.steps();
            x.drift(1);
            Due.is("the seed behind drift(1)", x.seed(0), next(next(0)));
        });
        Sentence.holds(13, "ahead of each, if there are PERSONS, a DRAW of these twice", () -> {
            ParadeRow x = Due.placed("p0 1;");
            Due.is("drift(3) of one", x.drift(3), 3);
            Due.is("told(5) of one", x.told(5), 0);
            Due.is("the seed behind six draws", x.seed(0), next(next(next(next(next(next(0)))))));
            Script.run(new ParadeRow(), "seed(9) drift(1)=NOT seed(0)=9");
        });
    }

    /** Who is drawn of n from this seed, twice: 10 times the first and the second. */
    private static int drawn(long seed, int n) {
        long once = next(seed);
        return (int) (10 * (once / 65536 % n) + next(once) / 65536 % n);
    }

    private static void meetingsByDraws() {
        Sentence.holds(13, "the DRAW of n is it / 65536, left over by n", () -> {
            for (int n = 1; n <= 8; n++) {
                for (int v : new int[] {0, 7, 65535, 65536, 1000000007, 2147483647}) {
                    ParadeRow x = Due.placed("p9 0;".repeat(n));
                    x.seed(v);
                    x.drift(1);
                    int pair = drawn(v, n);
                    boolean unlike = pair / 10 != pair % 10;
                    Due.is("told(5) of " + n + " from " + v, x.told(5), unlike ? 1 : 0);
                    Due.is("who met of " + n + " from " + v, x.remembers(pair / 10, pair % 10), unlike ? 9 : Due.UNKNOWN);
                }
            }
        });
        Sentence.holds(13, "if unlike, the first MET the second (KNOWS him from then on).", () -> {
            int met = 0;
            for (int v = 0; v < 200000; v += 9973) {
                ParadeRow x = Due.placed("p0 1;p0 1;");
                x.seed(v);
                x.drift(1);
                int pair = drawn(v, 2);
                Due.is("0 of 1 from " + v, x.remembers(0, 1), pair == 1 ? 0 : Due.NONE);
                Due.is("1 of 0 from " + v, x.remembers(1, 0), pair == 10 ? 0 : Due.NONE);
                met |= pair == 1 ? 1 : pair == 10 ? 2 : 4;
            }
            Due.is("all three kinds of draws", met, 7);
        });
    }

    private static void undo() {
        Sentence.holds(14, "(20 at most are kept, the oldest are lost)", () -> {
            ParadeRow x = Towns.steps();
            Script.run(x, "year(1) ".repeat(20) + "told(8)=20 year(1)=21 told(8)=20");
            for (int i = 19; i >= 0; i--) {
                Script.run(x, "undo()=" + i + " told(2)=" + (i + 1));
            }
            Script.run(x, "undo()=NOT told(2)=1");
            ParadeRow y = Towns.steps();
            Script.run(y, "year(1) ".repeat(20) + "undo() ".repeat(19) + "undo()=0 told(2)=0 undo()=NOT");
            ParadeRow z = Towns.steps();
            Script.run(z, "year(1) ".repeat(59) + "undo()=19 undo()=18 year(5)=62 told(8)=19 year(1) told(8)=20 year(1) told(8)=20");
            Script.run(z, "undo() ".repeat(19) + "told(2)=41 undo()=0 told(2)=40 undo()=NOT year(1)=41 undo()=0 told(2)=40");
        });
        Sentence.holds(14, "The latest is undone: how many more can be.", () ->
            Script.run(Towns.steps(), "mark(0,0)=1 mark(0,1)=3 mark(0,2)=7 undo()=2 person(0,0)=3 mark(0,7)=131 undo()=2 person(0,0)=3 undo()=1"
                + " person(0,0)=1 undo()=0 person(0,0)=0"));
        Sentence.holds(14, "NOT: none.", () -> {
            Script.refused(Towns::nobody, "undo()=NOT");
            Script.refused(Towns::steps, "undo()=NOT");
            Script.refused(() -> Towns.old(0), "undo()=NOT");
        });
    }

    private static void whatIsUndone() {
        Sentence.holds(14, "year(), meet(), forget(), parade(), mark(), drift() that was not refused", () -> {
            String[] done = {"year(3)", "meet(2,0)", "forget(0,2)", "parade(4,2,10)", "mark(2,4)", "drift(5)"};
            for (String call : done) {
                ParadeRow x = Towns.steps();
                Script.run(x, call + " told(8)=1 undo()=0");
                List<Integer> seen = Due.seen(x);
                Due.same("as ahead of " + call, seen, Due.seen(Towns.steps()));
            }
            Script.run(Towns.steps(), "year(0) meet(0,0) forget(2,4) parade(4,2,4) mark(0,8) drift(61) undo() told(8)=0");
            Script.run(Towns.steps(), "meet(4,2)=0 told(8)=1 parade(4,2,12)=2 told(8)=2");
        });
        Sentence.holds(14, "TRIED from now; nothing changes by it.", () ->
            Script.run(Towns.steps(), "sure(4,2,6) bestRow(4,2,2) odds(4,2,6,1) ask(2,6) ring(0) rings(0) mask(4,2,6,1) spoil(4,2,6,1)"
                + " impostor(4,2,1,2,0) lost(0) alike(60) see(4,2,6,1) honest() nods(4) showNext(4,2) write(0,0) judge() seed(5) told(8)=0"));
        Sentence.holds(14, "all of section 2 is as ahead of it; THE SEED stays.", () -> {
            ParadeRow x = Towns.steps();
            Script.run(x, "seed(4) drift(1) seed(2147483647) undo()=0 seed(0)=2147483647 drift(2) see(4,2,6,1) write(0,1) feed(65)");
            Script.run(x, "undo()=0 told(2)=0 told(6)=1 told(7)=1 told(1)=1");
            Due.is("the seed behind four draws", x.seed(0), next(next(next(next(0)))));
        });
    }
}
