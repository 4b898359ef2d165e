import java.util.List;

/** Promises 33 to 35: a test for each sentence that names a boundary case of the seed and the images. */
public final class ImageBoundsTest {
    private ImageBoundsTest() {
    }

    public static void main(String[] args) {
        seed();
        keep();
        goBack();
        whatIsKept();
        Sentence.end("ImageBoundsTest", 33, 35);
    }

    private static void seed() {
        Sentence.holds(33, "THE SEED becomes v (0 .. 2147483647): what it was. OUTSIDE.", () -> {
            Script.run(Towns.nobody(), "seed(0)=0 seed(1)=0 seed(2147483647)=1 seed(2147483646)=2147483647 seed(0)=2147483646 seed(0)=0");
            Script.refused(Towns::busy, "seed(-1)=OUTSIDE seed(-2)=OUTSIDE seed(MIN)=OUTSIDE");
            Script.run(Towns.nobody(), "seed(7) seed(-1)=OUTSIDE seed(0)=7");
        });
        Sentence.holds(33, "THE SEED (0 at first", () -> Script.run(Towns.nobody(), "seed(5)=0 seed(0)=5"));
        Sentence.holds(33, "THE SEED stays.", () -> Script.run(Towns.steps(), "seed(5) mark(0,0) seed(6)=5 told(8)=1 undo()=0 seed(0)=6"));
    }

    private static void keep() {
        Sentence.holds(34, "IMAGES 0, 1 keep all of section 2, THE SEED.", () -> {
            Script.run(Towns.steps(), "keep(0)=1 keep(1)=1");
            Script.refused(Towns::busy, "keep(-1)=UNKNOWN keep(2)=UNKNOWN keep(MIN)=UNKNOWN keep(MAX)=UNKNOWN");
            Script.refused(Towns::nobody, "keep(-1)=UNKNOWN keep(2)=UNKNOWN");
        });
        Sentence.holds(34, "IMAGE i becomes what is so (nothing can be undone then): 1.", () -> {
            Script.run(Towns.steps(), "year(1) " + "mark(0,0) ".repeat(21) + "told(8)=20 keep(0)=1 told(8)=0 undo()=NOT person(0,0)=1 mark(0,0) undo()=0");
            Script.run(Towns.steps(), "keep(1)=1 year(1) keep(1)=1 year(1) goBack(1)=1 told(2)=1 goBack(0)=NOT");
            Script.run(Towns.nobody(), "keep(0)=1 goBack(0)=1 told(0)=0 goBack(1)=NOT");
        });
    }

    private static void goBack() {
        Sentence.holds(35, "What is so becomes IMAGE i (nothing can be undone then): 1.", () -> {
            Script.run(Towns.steps(), "keep(0) year(1) year(1) told(8)=2 goBack(0)=1 told(8)=0 undo()=NOT told(2)=0 goBack(0)=1 year(1) undo()=0");
            Script.run(Towns.steps(), "year(1) keep(0) year(1) keep(1) year(1) goBack(0) told(2)=1 goBack(1) told(2)=2 goBack(0) told(2)=1");
        });
        Sentence.holds(35, "UNKNOWN, NOT: it was not kept.", () -> {
            Script.refused(Towns::busy, "goBack(-1)=UNKNOWN goBack(2)=UNKNOWN goBack(MIN)=UNKNOWN goBack(MAX)=UNKNOWN goBack(1)=NOT");
            Script.refused(Towns::steps, "goBack(0)=NOT goBack(1)=NOT goBack(2)=UNKNOWN goBack(-1)=UNKNOWN");
            Script.refused(Towns::nobody, "goBack(0)=NOT goBack(1)=NOT goBack(2)=UNKNOWN");
            Script.run(Towns.steps(), "keep(0) goBack(1)=NOT goBack(0)=1");
            Script.run(Towns.steps(), "keep(1) goBack(0)=NOT goBack(1)=1");
        });
        Sentence.holds(35, "IMAGES, what could be undone are gone", () ->
            Script.run(Towns.steps(), "keep(0) keep(1) place()=0 goBack(0)=NOT goBack(1)=NOT"));
        Sentence.holds(35, "(all else is as it was)", () ->
            Script.run(Towns.steps(), "keep(0) keep(1) feed(120) place()=-11 goBack(0)=1 goBack(1)=1"));
    }

    private static void whatIsKept() {
        Sentence.holds(35, "keep all of section 2, THE SEED", () -> {
            ParadeRow x = Towns.ringOfEight();
            Script.run(x, "seed(9) keep(0)");
            List<Integer> kept = Due.seen(x);
            Script.run(x, "year(60) drift(9) forget(7,1) mark(7,7) parade(7,2,6) goBack(0)=1 seed(9)=9");
            Due.same("what is so is what was kept", Due.seen(x), kept);
            Script.run(Towns.old(60), "seed(3) goBack(0)=1 told(2)=9000 year(1)=9001 seed(0)=0");
        });
        Sentence.holds(35, "IMAGES 0, 1 keep all of section 2, THE SEED.", () ->
            Script.run(Towns.steps(), "keep(0) see(4,2,6,1) write(0,1) feed(65) seed(6) goBack(0)=1 told(6)=1 told(7)=1 told(1)=1 nods(4)=1 judge()=0 seed(1)=0"));
    }
}
