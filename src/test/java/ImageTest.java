/** Promises 28 and 29: image, restore. */
public final class ImageTest {
    private static final Due DUE = new Due("ImageTest");

    public static void main(String[] args) {
        none();
        allComesBack();
        sheetsAndTapeStay();
        theLastImage();
        DUE.end();
    }

    private static void none() {
        IceByEar x = new IceByEar();
        x.make(0, 0, 7);
        DUE.is("no image", x.restore(), IceByEar.NONE);
        DUE.is("nothing changed", x.told(0, 0), 7);
    }

    private static void allComesBack() {
        IceByEar x = new IceByEar();
        fill(x, 1);
        DUE.is("image", x.image(), 1);
        fill(x, 2);
        DUE.is("restore", x.restore(), 1);
        check(x, 1);
        fill(x, 2);
        DUE.is("restore again", x.restore(), 1);
        check(x, 1);
        x.make(0, 0, 50);
        x.restore();
        DUE.is("the image is no other name of the ice", x.told(0, 0), 1);
    }

    /** A state in which each part depends on k (1, 2). */
    private static void fill(IceByEar x, int k) {
        for (int square = 0; square < 64; square += 63) {
            x.make(square, 0, k);
            x.make(square, 1, k);
            x.make(square, 2, k);
            x.make(square, 3, k - 1);
            x.make(square, 4, k);
        }
        x.set(0, k);
        x.set(1, 90 + k);
        x.home();
        for (int i = 0; i < 2 * k; i++) {
            x.sleigh(10 * k, k, i);
        }
        Due.way(x, 8 * k, 8 * k + 1, 8 * k + 2, 8 * k + 3);
        x.back(k);
        x.deaf();
        for (int i = 0; i < k; i++) {
            x.hear(k, 20 * k + i, 9000 / (40 + k));
        }
        x.slip(k, k);
        x.slip(0, 10 * k);
    }

    private static void check(IceByEar x, int k) {
        for (int square = 0; square < 64; square += 63) {
            DUE.is("thickness", x.told(square, 0), k);
            DUE.is("kind", x.told(square, 1), k);
            DUE.is("snow", x.told(square, 2), k);
            DUE.is("spring", x.told(square, 3), k - 1);
            DUE.is("planks", x.told(square, 4), k);
        }
        DUE.is("THE CRACK", x.set(0, k), k);
        DUE.is("STEEP", x.set(1, 90 + k), 90 + k);
        DUE.is("sleighs", x.count(0), 2 * k);
        DUE.is("need of the second", x.need(1, 0), 10 * k * (10 + k) / 10 + 10 * k * k / 10);
        DUE.is("places", x.count(1), 4 - k);
        DUE.is("heard", x.count(2), k);
        DUE.is("span", x.span(15, 20 * k, 0), 40 + k);
        DUE.is("span by who heard", x.span(1 << k, 20 * k, 0), 40 + k);
        DUE.is("span by the others", x.span(15 - (1 << k), 20 * k, 1), 99);
        DUE.is("slip", x.slip(0, 10 * k), 10 * k);
        DUE.is("slip of another", x.slip(2, 0), 0);
        DUE.is("the last place", x.step(8 * k + 4 - k), 5 - k);
        x.back(1);
    }

    private static void sheetsAndTapeStay() {
        IceByEar x = new IceByEar();
        x.image();
        x.sheet(0, 2, 5);
        x.item(0, 2, 0, 63);
        Due.typed(x, "77");
        x.restore();
        DUE.is("the sheet stays", x.go(0, 2, 0, 1), 1);
        DUE.is("the tape stays", x.type('7', 1), 3);
        x.image();
        x.drop(0);
        DUE.is("the tape is read", x.ice(), 3);
        x.restore();
        DUE.is("the sheet does not come back", x.drop(0), IceByEar.NULL);
        DUE.is("the tape does not come back", x.type('7', 1), 1);
        DUE.is("the ice does", x.told(0, 0), 30);
        DUE.is("the way does", x.count(1), 1);
    }

    private static void theLastImage() {
        IceByEar x = new IceByEar();
        x.make(0, 0, 1);
        x.image();
        x.make(0, 0, 2);
        x.image();
        x.make(0, 0, 3);
        x.restore();
        DUE.is("the last image", x.told(0, 0), 2);
    }
}
