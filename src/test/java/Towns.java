/** Places that the tests of single sentences start from. */
final class Towns {
    /** Marks 0, 1, 3, 7, 15: APART of two is how far their numbers are from one another. */
    static final String STEPS = "p0 0;p1 0;p3 0;p7 0;p15 0;k4 2;k0 2;k1 0;k3 2;";
    static final String EIGHT_BLANK = "p0 0;".repeat(8);
    private static final String KNOWN_IN_TURN = "k7 1;k7 2;k7 3;k7 4;k7 5;k7 6;k0 7;k1 0;";

    private Towns() {
    }

    static ParadeRow steps() {
        return Due.placed(STEPS);
    }

    static ParadeRow nobody() {
        return new ParadeRow();
    }

    /** Some of everything: so a refused call has something to spoil. 4 knows 2, 2 does not know 4. */
    static ParadeRow busy() {
        ParadeRow x = steps();
        Script.run(x, "feed(120) place() seed(77) parade(4,2,10) keep(0) seed(78) year(2) mark(3,7)");
        Script.run(x, "see(4,2,9,0) see(0,2,10,3) write(1,0) write(1,2)");
        Due.feed(x, "p9 1;");
        return x;
    }

    /** Two persons in the year 9000 and so many more; one of the calls behind 9000 can be undone. */
    static ParadeRow old(int more) {
        ParadeRow x = Due.placed("p5 1;p0 3;k0 1;");
        Script.run(x, "year(60) ".repeat(150) + "keep(0)");
        if (more > 0) {
            x.year(more);
        }
        return x;
    }

    /** Eight persons without marks: who follows each of them is known by somebody. */
    static ParadeRow eight() {
        return Due.placed(EIGHT_BLANK + KNOWN_IN_TURN);
    }

    /** 0 is 1, 1 is 2 and so on; 7 is himself. */
    static ParadeRow chainOfEight() {
        ParadeRow x = eight();
        Script.run(x, "parade(7,1,3)=0 parade(7,2,6)=1 parade(7,3,12)=2 parade(7,4,24)=3 parade(7,5,48)=4");
        Script.run(x, "parade(7,6,96)=5 parade(0,7,192)=6");
        return x;
    }

    /** 7 is 0, too. */
    static ParadeRow ringOfEight() {
        ParadeRow x = chainOfEight();
        Script.run(x, "mark(2,0)=1 parade(1,0,132)=7");
        return x;
    }

    /** All eight are 0. */
    static ParadeRow eightOfOne() {
        ParadeRow x = Due.placed(EIGHT_BLANK + "k1 0;k2 0;");
        Script.run(x, "mark(0,7) parade(2,0,3)=1 parade(1,0,5)=2 parade(1,0,9)=3 parade(1,0,17)=4");
        Script.run(x, "parade(1,0,33)=5 parade(1,0,65)=6 parade(1,0,129)=7");
        return x;
    }

    /** Each of eight knows each other one. */
    static ParadeRow allKnown() {
        ParadeRow x = Due.placed(EIGHT_BLANK);
        for (int w = 0; w < 8; w++) {
            for (int p = 0; p < 8; p++) {
                if (w != p) {
                    x.meet(w, p);
                }
            }
        }
        return x;
    }

    /** The text has all its 240 letters: one person, and blanks. */
    static ParadeRow fullText() {
        ParadeRow x = Due.placed("p1 2;p3 4;k0 1;");
        Due.feed(x, "p5 6;" + " ".repeat(235));
        return x;
    }
}
