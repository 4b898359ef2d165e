/** Promises 15 to 25: a test for each sentence of section 3 that names a boundary case of what is tried. */
public final class TriedBoundsTest {
    /** 2 remembers 0 without marks; 1 has all of them. */
    private static final String FARTHEST = "p0 0;p255 0;p0 0;k2 0;";

    private TriedBoundsTest() {
    }

    public static void main(String[] args) {
        sure();
        refusedSure();
        bestRow();
        odds();
        refusedOdds();
        ask();
        ring();
        rings();
        mask();
        refusedMask();
        spoil();
        refusedSpoil();
        impostor();
        refusedImpostor();
        lost();
        alike();
        Sentence.end("TriedBoundsTest", 15, 25);
    }

    /** The steps, with marks of P taken on or lost. */
    private static ParadeRow stepsWith(int p, int... marks) {
        ParadeRow x = Towns.steps();
        for (int k : marks) {
            x.mark(p, k);
        }
        return x;
    }

    private static void sure() {
        Sentence.holds(15, "0, if P is not picked; else 1 and by how much", () -> {
            Script.run(Towns.steps(), "sure(4,2,6)=2 sure(4,2,5)=3 sure(4,2,15)=2 mark(2,2) sure(4,2,12)=1 sure(4,2,6)=0 sure(4,2,5)=2");
            Script.run(Due.placed(FARTHEST), "sure(2,0,3)=9 mark(1,7) sure(2,0,3)=8");
            Script.run(Due.placed("p255 0;p0 0;p0 0;k2 1;"), "sure(2,1,3)=9 mark(1,0) sure(2,1,3)=8");
            Script.run(stepsWith(2, 4, 5, 6, 7), "sure(4,2,5)=0 sure(4,2,12)=0");
        });
        Sentence.holds(15, "the least APART of all others in it", () -> {
            Script.run(Due.placed("p0 0;p1 0;p3 0;p7 0;p15 0;p31 0;p63 0;p127 0;k7 0;"), "sure(7,0,127)=2 sure(7,0,125)=3 sure(7,0,65)=7");
            Script.run(Due.placed("p0 0;p63 0;p31 0;p15 0;p7 0;p3 0;p1 0;p0 0;k7 0;"), "sure(7,0,127)=2 sure(7,0,63)=3 sure(7,0,3)=7");
        });
        Sentence.holds(15, "nothing changes by it", () -> Script.tried(Towns::busy, "sure(4,2,6)=2 sure(4,2,12)=3 sure(4,2,5)=3"));
    }

    private static void refusedSure() {
        Sentence.holds(15, "UNKNOWN (as for parade())", () ->
            Script.refused(Towns::busy, Refused.pairs("sure(W,P,ROW)") + Refused.rows("sure(W,P,ROW)")));
        Sentence.holds(15, "OUTSIDE: fewer than 2 in the row, P not in it; NOT: W does not KNOW P.", () -> {
            Script.refused(Towns::busy, "sure(4,2,0)=OUTSIDE sure(4,2,4)=OUTSIDE sure(4,2,1)=OUTSIDE");
            Script.refused(Towns::busy, "sure(4,2,3)=OUTSIDE sure(4,2,11)=OUTSIDE");
            Script.refused(Towns::busy, "sure(2,4,17)=NOT sure(2,4,27)=NOT sure(0,1,6)=NOT");
        });
        Sentence.holds(15, "of several the first in this order", () -> {
            Script.refused(Towns::busy, "sure(4,2,32)=UNKNOWN sure(4,2,16)=UNKNOWN sure(4,2,17)=UNKNOWN sure(2,2,0)=UNKNOWN");
            Script.refused(Towns::busy, "sure(2,4,20)=UNKNOWN sure(2,4,48)=UNKNOWN sure(2,4,3)=OUTSIDE sure(2,4,16)=OUTSIDE sure(2,4,0)=OUTSIDE");
        });
    }

    private static void bestRow() {
        Sentence.holds(16, "BEST ROW for W and P of n PERSONS (2 .. 8, P among them, W not)", () -> {
            Script.run(Towns.eight(), "bestRow(7,1,2)=6 bestRow(7,1,6)=126 bestRow(7,1,7)=NONE bestRow(7,1,8)=NONE mark(0,0)"
                + " bestRow(7,1,7)=127 bestRow(7,1,8)=NONE bestRow(7,1,2)=3");
            Script.run(Towns.steps(), "bestRow(4,2,2)=5 bestRow(4,2,4)=15 bestRow(4,2,5)=NONE bestRow(4,2,8)=NONE bestRow(0,2,2)=20");
            Script.run(Due.placed("p1 0;p1 0;k0 1;"), "bestRow(0,1,2)=NONE bestRow(0,1,8)=NONE");
            Script.refused(Towns::busy, "bestRow(4,2,1)=OUTSIDE bestRow(4,2,9)=OUTSIDE bestRow(4,2,0)=OUTSIDE bestRow(4,2,-1)=OUTSIDE");
            Script.refused(Towns::busy, "bestRow(4,2,MIN)=OUTSIDE bestRow(4,2,MAX)=OUTSIDE");
        });
        Sentence.holds(16, "SURE most; of like ones the least SET; NONE.", () -> {
            Script.run(Towns.steps(), "bestRow(4,2,3)=7 bestRow(3,2,2)=5");
            Script.run(Due.placed("p5 0;p5 0;p5 0;p5 0;k3 0;"), "bestRow(3,0,2)=3 bestRow(3,0,3)=7");
            Script.run(Due.placed("p5 0;p4 0;p7 0;p2 0;p5 0;k4 0;"), "bestRow(4,0,2)=9 bestRow(4,0,3)=7");
            Script.run(stepsWith(2, 4, 5, 6, 7), "bestRow(4,2,2)=NONE bestRow(4,2,4)=NONE");
            Script.run(stepsWith(2, 2), "bestRow(4,2,2)=5 bestRow(4,2,3)=13 bestRow(4,2,4)=NONE");
        });
        Sentence.holds(16, "BEST ROW; NONE. UNKNOWN, OUTSIDE, NOT: W does not KNOW P.", () -> {
            Script.refused(Towns::busy, Refused.pairs("bestRow(W,P,2)") + Refused.pairs("bestRow(W,P,9)"));
            Script.refused(Towns::busy, "bestRow(2,4,2)=NOT bestRow(2,4,8)=NOT bestRow(0,1,2)=NOT");
            Script.refused(Towns::busy, "bestRow(2,4,1)=OUTSIDE bestRow(2,4,9)=OUTSIDE");
        });
        Sentence.holds(16, "nothing changes by it", () -> Script.tried(Towns::busy, "bestRow(4,2,2)=5 bestRow(4,2,8)=NONE"));
    }

    private static void odds() {
        Sentence.holds(17, "WEIGHT of each in it: 9 less APART", () -> {
            Script.run(Due.placed(FARTHEST), "odds(2,0,3,0)=900000 odds(2,0,3,1)=100000");
            Script.run(Due.placed("p255 0;p255 0;p0 0;p0 0;k2 3;"), "odds(2,3,3,0)=500000 odds(2,3,3,1)=500000");
            Script.run(Towns.eight(), "odds(7,1,127,0)=142857 odds(7,1,127,6)=142857 odds(0,7,254,7)=142857");
        });
        Sentence.holds(17, "his times a MILLION / that of all (cut)", () -> {
            Script.run(Due.placed("p1 0;p31 0;p0 0;p0 0;k2 3;"), "odds(2,3,3,0)=666666 odds(2,3,3,1)=333333");
            Script.run(Towns.steps(), "odds(4,2,13,0)=291666 odds(4,2,13,2)=375000 odds(4,2,13,3)=333333");
        });
        Sentence.holds(17, "0, if he is not in the row.", () ->
            Script.run(Towns.steps(), "odds(4,2,9,1)=0 odds(4,2,9,2)=0 odds(4,2,9,4)=0 odds(4,2,9,0)=466666 odds(4,2,9,3)=533333"));
        Sentence.holds(17, "nothing changes by it", () -> Script.tried(Towns::busy, "odds(4,2,6,1)=470588 odds(4,2,6,3)=0"));
    }

    private static void refusedOdds() {
        Sentence.holds(17, "ODDS that X is picked. UNKNOWN, OUTSIDE: fewer than 2 in the row; NOT: W does not KNOW P.", () -> {
            Script.refused(Towns::busy, Refused.pairs("odds(W,P,ROW,1)") + Refused.rows("odds(W,P,ROW,0)"));
            Script.refused(Towns::busy, Refused.strangers("odds(4,2,6,X)", "X"));
            Script.refused(Towns::busy, "odds(4,2,0,2)=OUTSIDE odds(4,2,4,2)=OUTSIDE odds(4,2,1,2)=OUTSIDE");
            Script.refused(Towns::busy, "odds(2,4,3,0)=NOT odds(2,4,17,4)=NOT odds(2,4,3,4)=NOT");
        });
        Sentence.holds(17, "of several the first in this order", () -> {
            Script.refused(Towns::busy, "odds(4,2,4,5)=UNKNOWN odds(4,2,32,2)=UNKNOWN odds(4,2,16,2)=UNKNOWN odds(2,4,3,5)=UNKNOWN");
            Script.refused(Towns::busy, "odds(2,4,7,0)=UNKNOWN odds(2,4,1,0)=OUTSIDE odds(2,4,0,0)=OUTSIDE");
        });
    }

    private static void ask() {
        Sentence.holds(18, "of those who KNOW P and are not in the row, by whom P is picked, whose SURE is most", () -> {
            Script.run(Towns.steps(), "ask(2,12)=0 ask(2,13)=4 ask(2,29)=NONE ask(2,31)=NONE ask(0,5)=1 ask(0,7)=NONE ask(3,12)=NONE");
            Script.run(Towns.eight(), "ask(1,6)=7 ask(1,126)=7 ask(1,127)=NONE mark(0,0) ask(1,127)=7 ask(1,255)=NONE");
            Script.run(stepsWith(2, 2), "ask(2,6)=NONE meet(4,2) ask(2,6)=4 ask(2,5)=4");
        });
        Sentence.holds(18, "of like ones the least; NONE.", () -> {
            Script.run(Towns.steps(), "ask(2,6)=0 ask(2,7)=3 ask(2,15)=4");
            Script.run(Towns.eightOfOne(), "ask(0,3)=NONE mark(0,7) ask(0,9)=1 ask(0,11)=2 ask(0,15)=NONE");
            Script.run(stepsWith(2, 4, 5, 6, 7), "ask(2,6)=NONE");
        });
        Sentence.holds(18, "ASK; NONE. UNKNOWN, OUTSIDE: fewer than 2 in the row, P not in it.", () -> {
            Script.refused(Towns::busy, Refused.strangers("ask(P,6)", "P") + Refused.strangers("ask(P,0)", "P"));
            Script.refused(Towns::busy, "ask(2,36)=UNKNOWN ask(2,32)=UNKNOWN ask(2,262)=UNKNOWN ask(2,-1)=UNKNOWN ask(2,MIN)=UNKNOWN");
            Script.refused(Towns::busy, "ask(2,0)=OUTSIDE ask(2,4)=OUTSIDE ask(2,1)=OUTSIDE ask(2,3)=OUTSIDE ask(2,27)=OUTSIDE");
            Script.refused(Towns::nobody, "ask(0,0)=UNKNOWN ask(0,3)=UNKNOWN");
            Script.run(Towns.eight(), "ask(7,192)=NONE ask(7,384)=UNKNOWN ask(7,128)=OUTSIDE");
        });
        Sentence.holds(18, "nothing changes by it", () -> Script.tried(Towns::busy, "ask(2,6)=0 ask(3,12)=NONE"));
    }

    private static void ring() {
        Sentence.holds(19, "the fewest steps (1 or more), each to whom the one IS, that lead from him back to him; NONE.", () -> {
            Script.run(Towns.steps(), "ring(0)=1 ring(4)=1 parade(4,2,10)=1 ring(1)=NONE ring(2)=1");
            Script.run(Due.placed("p0 0;p0 0;p0 0;k2 0;k2 1;"), "parade(2,1,3)=0 ring(0)=NONE mark(0,0) parade(2,0,3)=1 ring(0)=2 ring(1)=2");
            ParadeRow x = Towns.ringOfEight();
            ParadeRow y = Towns.chainOfEight();
            for (int p = 0; p < 8; p++) {
                Script.run(x, "ring(" + p + ")=8");
                Script.run(y, "ring(" + p + ")=" + (p == 7 ? "1" : "NONE"));
            }
        });
        Sentence.holds(19, "RING; NONE. UNKNOWN.", () -> {
            Script.refused(Towns::busy, Refused.strangers("ring(P)", "P"));
            Script.refused(Towns::nobody, "ring(0)=UNKNOWN");
            Script.run(Towns.eight(), "ring(7)=1 ring(8)=UNKNOWN ring(-1)=UNKNOWN");
        });
        Sentence.holds(19, "nothing changes by it", () -> Script.tried(Towns::busy, "ring(1)=NONE ring(2)=1"));
    }

    private static void rings() {
        Sentence.holds(20, "RINGS: how many PERSONS have a RING of 2 or more.", () -> {
            Script.run(Towns.steps(), "rings(0)=0");
            Script.run(Due.placed("p0 0;p0 0;p0 0;k2 0;k2 1;"), "parade(2,1,3)=0 rings(0)=0 mark(0,0) parade(2,0,3)=1 rings(0)=2");
            Script.run(Towns.ringOfEight(), "rings(0)=8");
            Script.run(Towns.chainOfEight(), "rings(0)=0");
            Script.run(Towns.eightOfOne(), "rings(0)=0");
        });
        Sentence.holds(20, "PUT RIGHT: how many PERSONS are not themselves; how many of these somebody KNOWS.", () -> {
            Script.run(Towns.steps(), "rings(1)=0 rings(2)=0 parade(4,2,10)=1 rings(1)=1 rings(2)=0 meet(3,1) rings(2)=1");
            Script.run(Towns.ringOfEight(), "rings(1)=8 rings(2)=8 forget(1,0) rings(1)=8 rings(2)=7");
            Script.run(Towns.chainOfEight(), "rings(1)=7 rings(2)=7 forget(0,7) rings(2)=7");
            Script.run(Towns.eightOfOne(), "rings(1)=7 rings(2)=0");
        });
        Sentence.holds(20, "what = 0 RINGS, 1 PUT RIGHT, 2 those of them whom somebody KNOWS. OUTSIDE.", () -> {
            Script.refused(Towns::busy, "rings(-1)=OUTSIDE rings(3)=OUTSIDE rings(MIN)=OUTSIDE rings(MAX)=OUTSIDE");
            Script.refused(Towns::nobody, "rings(-1)=OUTSIDE rings(3)=OUTSIDE");
            Script.run(Towns.nobody(), "rings(0)=0 rings(1)=0 rings(2)=0");
        });
        Sentence.holds(20, "nothing changes by it", () -> Script.tried(Towns::busy, "rings(0)=0 rings(1)=1 rings(2)=0"));
    }

    private static void mask() {
        Sentence.holds(21, "is m (1 .. 8) or more", () -> {
            Script.run(Due.placed(FARTHEST), "mask(2,0,3,1)=0 mask(2,0,3,8)=0 mark(0,7) mask(2,0,3,8)=0 mark(0,6) mask(2,0,3,8)=64 mask(2,0,3,7)=0");
            Script.run(Due.placed("p0 0;p1 0;p0 0;k2 0;"), "mask(2,0,3,2)=0 mask(2,0,3,3)=NONE mask(2,0,3,8)=NONE");
            Script.refused(Towns::busy, "mask(4,2,6,0)=OUTSIDE mask(4,2,6,9)=OUTSIDE mask(4,2,6,-1)=OUTSIDE mask(4,2,6,MIN)=OUTSIDE");
            Script.refused(Towns::busy, "mask(4,2,6,MAX)=OUTSIDE");
        });
        Sentence.holds(21, "the fewest MARKS to be TAKEN ON or lost by P; of like ones the least SET: the SET; NONE.", () -> {
            Script.run(stepsWith(2, 2, 4), "mask(4,2,5,1)=4 mask(4,2,5,2)=4 mask(4,2,5,3)=20 mask(4,2,5,4)=NONE");
            Script.run(stepsWith(2, 0, 7), "mask(4,2,5,1)=1 mask(4,2,5,3)=129 mask(4,2,6,1)=129");
            Script.run(stepsWith(2, 2), "mask(4,2,12,1)=0 mask(4,2,6,1)=4 mask(4,2,12,2)=4 mask(4,2,12,3)=NONE");
            Script.run(Due.placed("p0 0;p127 0;p0 0;k2 0;"), "mark(0,0) mark(0,1) mark(0,2) mark(0,3) mark(0,4) mark(0,5) mark(0,6) mark(0,7)"
                + " mask(2,0,3,8)=255 mask(2,0,3,7)=127 mask(2,0,3,1)=1");
        });
        Sentence.holds(21, "nothing changes by it", () -> Script.tried(Towns::busy, "mask(4,2,6,1)=0 mask(4,2,6,3)=NONE"));
    }

    private static void refusedMask() {
        Sentence.holds(21, "MASK; NONE. UNKNOWN, OUTSIDE (also as for sure()), NOT: W does not KNOW P.", () -> {
            Script.refused(Towns::busy, Refused.pairs("mask(W,P,ROW,1)") + Refused.rows("mask(W,P,ROW,8)"));
            Script.refused(Towns::busy, "mask(4,2,0,1)=OUTSIDE mask(4,2,4,1)=OUTSIDE mask(4,2,1,1)=OUTSIDE mask(4,2,3,1)=OUTSIDE mask(4,2,11,8)=OUTSIDE");
            Script.refused(Towns::busy, "mask(2,4,17,1)=NOT mask(2,4,27,8)=NOT");
        });
        Sentence.holds(21, "of several the first in this order", () -> {
            Script.refused(Towns::busy, "mask(4,2,38,0)=UNKNOWN mask(4,2,22,9)=UNKNOWN mask(2,2,6,0)=UNKNOWN mask(4,2,16,1)=UNKNOWN mask(2,4,20,1)=UNKNOWN");
            Script.refused(Towns::busy, "mask(2,4,17,0)=OUTSIDE mask(2,4,17,9)=OUTSIDE mask(2,4,16,1)=OUTSIDE mask(2,4,3,1)=OUTSIDE");
        });
    }

    private static void spoil() {
        Sentence.holds(22, "likewise the fewest MARKS of another one of a row (P in it, or not), so that he is picked as P.", () -> {
            Script.run(Towns.steps(), "spoil(4,2,6,1)=2 spoil(4,2,15,0)=3 spoil(4,2,12,3)=NONE spoil(4,2,14,3)=NONE");
            Script.run(Towns.steps(), "spoil(4,2,9,3)=0 spoil(4,2,9,0)=1 spoil(4,2,3,0)=1 spoil(4,2,3,1)=0 spoil(4,2,11,3)=4");
            Script.run(Due.placed("p255 0;p0 0;p0 0;k2 1;"), "spoil(2,1,3,0)=255 mark(1,0) spoil(2,1,3,0)=127");
            Script.run(Due.placed("p0 0;p255 0;p0 0;k2 0;"), "spoil(2,0,3,1)=NONE mark(0,0) spoil(2,0,3,1)=255 mark(0,1) spoil(2,0,3,1)=127");
        });
        Sentence.holds(22, "nothing changes by it", () -> Script.tried(Towns::busy, "spoil(4,2,6,1)=2 spoil(4,2,12,3)=NONE"));
    }

    private static void refusedSpoil() {
        Sentence.holds(22, "UNKNOWN (X like P, too)", () -> {
            Script.refused(Towns::busy, Refused.pairs("spoil(W,P,ROW,1)") + Refused.rows("spoil(W,P,ROW,0)"));
            Script.refused(Towns::busy, Refused.strangers("spoil(4,2,6,X)", "X"));
            Script.refused(Towns::busy, "spoil(4,2,6,2)=UNKNOWN spoil(4,2,3,2)=UNKNOWN");
        });
        Sentence.holds(22, "OUTSIDE: fewer than 2 in the row, X not in it; NOT: W does not KNOW P.", () -> {
            Script.refused(Towns::busy, "spoil(4,2,0,1)=OUTSIDE spoil(4,2,2,1)=OUTSIDE spoil(4,2,4,1)=OUTSIDE spoil(4,2,6,0)=OUTSIDE spoil(4,2,6,4)=OUTSIDE");
            Script.refused(Towns::busy, "spoil(2,4,3,0)=NOT spoil(2,4,17,0)=NOT");
        });
        Sentence.holds(22, "of several the first in this order", () -> {
            Script.refused(Towns::busy, "spoil(4,2,2,2)=UNKNOWN spoil(4,2,2,5)=UNKNOWN spoil(4,2,32,1)=UNKNOWN spoil(2,4,3,4)=UNKNOWN spoil(2,4,7,0)=UNKNOWN");
            Script.refused(Towns::busy, "spoil(2,4,3,3)=OUTSIDE spoil(2,4,1,0)=OUTSIDE spoil(2,4,0,0)=OUTSIDE");
        });
    }

    private static void impostor() {
        Sentence.holds(23, "rows (SETS of n PERSONS, 2 .. 8, a told PERSON X among them, W not) in which W would pick X as P", () -> {
            Script.run(Towns.eight(), "impostor(7,1,0,2,0)=6 impostor(7,1,0,2,1)=3 impostor(7,1,0,7,0)=1 impostor(7,1,0,7,1)=127");
            Script.run(Towns.eight(), "impostor(7,1,0,8,0)=0 impostor(7,1,0,8,1)=NONE impostor(7,1,0,4,0)=20 impostor(7,1,0,4,1)=15");
            Script.run(Towns.eight(), "impostor(0,7,7,2,0)=0 impostor(0,7,7,2,1)=NONE impostor(0,7,6,2,0)=1 impostor(0,7,6,2,1)=192");
            Script.refused(Towns::busy, "impostor(4,2,1,1,0)=OUTSIDE impostor(4,2,1,9,0)=OUTSIDE impostor(4,2,1,0,1)=OUTSIDE impostor(4,2,1,-1,1)=OUTSIDE");
            Script.refused(Towns::busy, "impostor(4,2,1,MIN,0)=OUTSIDE impostor(4,2,1,MAX,1)=OUTSIDE");
        });
        Sentence.holds(23, "how many; the least; NONE.", () -> {
            Script.run(Towns.steps(), "impostor(4,2,1,2,0)=2 impostor(4,2,1,2,1)=3 impostor(4,2,1,4,0)=0 impostor(4,2,1,4,1)=NONE");
            Script.run(Towns.steps(), "impostor(4,2,2,2,0)=3 impostor(4,2,2,2,1)=5 impostor(4,2,3,2,0)=1 impostor(4,2,3,2,1)=9");
            Script.run(Towns.steps(), "impostor(4,2,2,5,0)=0 impostor(4,2,2,5,1)=NONE impostor(0,2,4,2,0)=0 impostor(0,2,4,2,1)=NONE");
        });
        Sentence.holds(23, "nothing changes by it", () -> Script.tried(Towns::busy, "impostor(4,2,1,2,0)=2 impostor(4,2,1,2,1)=3"));
    }

    private static void refusedImpostor() {
        Sentence.holds(23, "IMPOSTOR: what = 0 how many, 1 the least; NONE. UNKNOWN (X like W, too), OUTSIDE", () -> {
            Script.refused(Towns::busy, Refused.pairs("impostor(W,P,1,2,0)") + Refused.pairs("impostor(W,P,1,9,2)"));
            Script.refused(Towns::busy, Refused.strangers("impostor(4,2,X,2,1)", "X"));
            Script.refused(Towns::busy, "impostor(4,2,4,2,0)=UNKNOWN impostor(4,2,4,2,1)=UNKNOWN impostor(4,2,4,9,0)=UNKNOWN");
            Script.refused(Towns::busy, "impostor(4,2,1,2,-1)=OUTSIDE impostor(4,2,1,2,2)=OUTSIDE impostor(4,2,1,2,MIN)=OUTSIDE impostor(4,2,1,2,MAX)=OUTSIDE");
        });
        Sentence.holds(23, "(X like W, too), OUTSIDE, NOT: W does not KNOW P.", () -> {
            Script.refused(Towns::busy, "impostor(2,4,1,2,0)=NOT impostor(2,4,4,8,1)=NOT");
            Script.refused(Towns::busy, "impostor(2,4,2,2,0)=UNKNOWN impostor(2,4,5,2,0)=UNKNOWN impostor(2,4,1,9,0)=OUTSIDE impostor(2,4,1,2,2)=OUTSIDE");
        });
    }

    private static ParadeRow allLost() {
        ParadeRow x = Towns.allKnown();
        for (int p = 0; p < 8; p++) {
            Script.run(x, "mark(@,0) mark(@,4) mark(@,7)".replace("@", String.valueOf(p)));
        }
        return x;
    }

    private static void lost() {
        Sentence.holds(24, "of whom what is remembered is 3 or more APART from P's MARKS now", () -> {
            Script.run(stepsWith(2, 7, 6), "lost(NONE)=0 lost(0)=NONE mark(2,5) lost(NONE)=3 mark(2,5) lost(NONE)=0");
            Script.run(Due.placed("p0 0;p0 1;k0 1;"), "year(2) lost(NONE)=0 year(1) lost(NONE)=1 year(5) lost(NONE)=1 lost(0)=1 meet(0,1)=8 lost(NONE)=0");
        });
        Sentence.holds(24, "LOST: i = NONE how many, else the i-th; NONE.", () -> {
            Script.run(stepsWith(2, 7, 6, 5), "lost(NONE)=3 lost(0)=2 lost(1)=32 lost(2)=42 lost(3)=NONE lost(-2)=NONE lost(MIN)=NONE lost(MAX)=NONE");
            Script.run(Towns.nobody(), "lost(NONE)=0 lost(0)=NONE lost(-2)=NONE lost(MAX)=NONE");
            Script.run(Towns.steps(), "lost(NONE)=0 lost(0)=NONE");
        });
        Sentence.holds(24, "pairs (10 times W and P; rising)", () -> {
            ParadeRow x = allLost();
            Script.run(x, "lost(NONE)=56 lost(0)=1 lost(55)=76 lost(56)=NONE");
            int i = 0;
            for (int pair = 0; pair < 78; pair++) {
                if (pair % 10 < 8 && pair / 10 != pair % 10) {
                    Due.is("lost(" + i + ")", x.lost(i), pair);
                    i++;
                }
            }
            Due.is("pairs", i, 56);
        });
        Sentence.holds(24, "nothing changes by it", () -> Script.tried(Towns::busy, "lost(NONE)=0 lost(0)=NONE"));
    }

    private static void alike() {
        Sentence.holds(25, "ALIKE behind n YEARS (0 .. 60)", () -> {
            Script.run(Due.placed("p0 1;p1 0;p0 0;"), "alike(0)=2 alike(1)=1 alike(2)=NONE alike(16)=2 alike(59)=NONE alike(60)=NONE");
            Script.run(Due.placed("p0 1;p240 0;"), "alike(60)=1 alike(59)=NONE alike(12)=1");
            Script.refused(Towns::busy, "alike(-1)=OUTSIDE alike(61)=OUTSIDE alike(MIN)=OUTSIDE alike(MAX)=OUTSIDE");
            Script.refused(Towns::nobody, "alike(-1)=OUTSIDE alike(61)=OUTSIDE");
            Script.run(Towns.old(1), "alike(60)=NONE alike(0)=NONE");
        });
        Sentence.holds(25, "the first pair of PERSONS (10 times the lesser and the other) whose MARKS are the same; NONE.", () -> {
            Script.run(Towns.eight(), "alike(0)=1 mark(0,0) alike(0)=12");
            Script.run(Due.placed("p0 0;p1 0;p2 0;p3 0;p4 0;p5 0;p6 0;p6 0;"), "alike(0)=67 mark(7,7) alike(0)=NONE mark(7,7) mark(7,1) mark(7,2) alike(60)=7");
            Script.run(Due.placed("p1 0;p2 0;p3 0;p3 0;p2 0;"), "alike(0)=14");
            Script.run(Due.placed("p1 0;"), "alike(0)=NONE alike(60)=NONE");
            Script.run(Towns.nobody(), "alike(0)=NONE alike(60)=NONE");
        });
        Sentence.holds(25, "nothing changes by it", () -> Script.tried(TriedBoundsTest::changing, "alike(60)=NONE alike(1)=NONE alike(0)=NONE"));
    }

    private static ParadeRow changing() {
        ParadeRow x = Due.placed("p0 1;p255 3;k0 1;");
        Script.run(x, "year(3) mark(0,7) meet(1,0)");
        return x;
    }
}
