import java.util.List;

/** Promises 33 to 35: the seed, images to go on from. */
public final class DrawsAndImagesTest {
    private static final String TEXT = "p7 1;p6 2;p5 3;k0 1;k1 2;k2 1;";

    private DrawsAndImagesTest() {
    }

    public static void main(String[] args) {
        seeds();
        keeping();
        refusedImages();
        goingBack();
        bothImages();
        whatImagesLeave();
        imagesOfNobody();
        Due.end("DrawsAndImagesTest");
    }

    private static ParadeRow kept() {
        ParadeRow x = Due.placed(TEXT);
        x.keep(0);
        x.year(1);
        return x;
    }

    private static void seeds() {
        ParadeRow x = new ParadeRow();
        Due.is("33: seed(5)", x.seed(5), 0);
        Due.is("33: seed(MAX)", x.seed(2147483647), 5);
        Due.is("33: seed(-1)", x.seed(-1), Due.OUTSIDE);
        Due.is("33: seed(MIN)", x.seed(Integer.MIN_VALUE), Due.OUTSIDE);
        Due.is("33: seed(0)", x.seed(0), 2147483647);
        Due.is("33: seed(0) again", x.seed(0), 0);
        Due.refused("33: seed(-1)", DrawsAndImagesTest::kept, y -> y.seed(-1), Due.OUTSIDE);
        ParadeRow y = Due.placed(TEXT);
        y.year(1);
        y.seed(4);
        Due.is("33: told(8)", y.told(8), 1);
    }

    private static void keeping() {
        ParadeRow x = Due.placed(TEXT);
        x.year(1);
        x.meet(0, 2);
        Due.is("34: keep(0)", x.keep(0), 1);
        Due.is("34: told(8)", x.told(8), 0);
        Due.is("34: undo()", x.undo(), Due.NOT);
        Due.is("34: told(2) stays", x.told(2), 1);
        Due.is("34: told(5) stays", x.told(5), 4);
        x.year(1);
        Due.is("34: keep(1)", x.keep(1), 1);
        Due.is("34: told(8) again", x.told(8), 0);
        x.year(1);
        Due.is("34: keep(0) anew", x.keep(0), 1);
        Due.is("34: goBack(1)", x.goBack(1), 1);
        Due.is("34: told(2) of the second", x.told(2), 2);
        Due.is("34: goBack(0)", x.goBack(0), 1);
        Due.is("34: told(2) of the first, anew", x.told(2), 3);
    }

    private static void refusedImages() {
        Due.refused("34: keep(2)", DrawsAndImagesTest::kept, y -> y.keep(2), Due.UNKNOWN);
        Due.refused("34: keep(-1)", DrawsAndImagesTest::kept, y -> y.keep(-1), Due.UNKNOWN);
        Due.refused("35: goBack(2)", DrawsAndImagesTest::kept, y -> y.goBack(2), Due.UNKNOWN);
        Due.refused("35: goBack(-1)", DrawsAndImagesTest::kept, y -> y.goBack(-1), Due.UNKNOWN);
        Due.refused("35: goBack(1), not kept", DrawsAndImagesTest::kept, y -> y.goBack(1), Due.NOT);
    }

    private static void goingBack() {
        ParadeRow x = Due.placed(TEXT);
        x.seed(31);
        x.drift(4);
        x.parade(1, 2, 5);
        int seed = x.seed(31);
        x.seed(seed);
        x.keep(1);
        List<Integer> before = Due.seen(x);
        x.drift(9);
        x.parade(2, 1, 3);
        x.mark(0, 7);
        x.forget(0, 1);
        Due.is("35: goBack(1)", x.goBack(1), 1);
        Due.same("35: all as kept", Due.seen(x), before);
        Due.is("35: undo()", x.undo(), Due.NOT);
        Due.is("35: the seed as kept", x.seed(seed), seed);
        x.drift(9);
        int once = x.person(0, 0) * 1000 + x.told(5);
        Due.is("35: goBack(1) again", x.goBack(1), 1);
        Due.same("35: all as kept, again", Due.seen(x), before);
        x.drift(9);
        Due.is("35: the same draws again", x.person(0, 0) * 1000 + x.told(5), once);
        x.undo();
        Due.same("35: undone as kept", Due.seen(x), before);
    }

    private static void bothImages() {
        ParadeRow x = Due.placed(TEXT);
        x.seed(1);
        x.keep(0);
        x.seed(2);
        x.year(5);
        x.keep(1);
        x.year(5);
        x.seed(3);
        x.goBack(0);
        Due.is("35: told(2) of 0", x.told(2), 0);
        Due.is("35: seed of 0", x.seed(7), 1);
        x.goBack(1);
        Due.is("35: told(2) of 1", x.told(2), 5);
        Due.is("35: seed of 1", x.seed(7), 2);
        x.year(1);
        x.goBack(0);
        Due.is("35: told(2) of 0 again", x.told(2), 0);
        Due.is("35: seed of 0 again", x.seed(7), 1);
    }

    private static void whatImagesLeave() {
        ParadeRow x = Due.placed(TEXT);
        x.keep(0);
        x.see(0, 1, 6, 2);
        x.write(0, 1);
        x.feed(65);
        x.goBack(0);
        Due.is("35: what is seen stays", x.told(6), 1);
        Due.is("35: the book stays", x.told(7), 1);
        Due.is("35: the text stays", x.told(1), 1);
        Due.is("35: place() with a fault", x.place(), -11);
        Due.is("35: goBack(0) behind a fault", x.goBack(0), 1);
        Due.feed(x, TEXT);
        Due.is("35: place()", x.place(), 3);
        Due.is("35: goBack(0) behind a new place", x.goBack(0), Due.NOT);
    }

    private static void imagesOfNobody() {
        ParadeRow x = new ParadeRow();
        Due.is("34: keep(0) of nobody", x.keep(0), 1);
        x.seed(9);
        Due.is("35: goBack(0) of nobody", x.goBack(0), 1);
        Due.is("35: seed of nobody", x.seed(9), 0);
        Due.is("35: told(0) of nobody", x.told(0), 0);
    }
}
