import java.util.function.Consumer;

/** Objects made ready for an edge, by so few calls that most of the 512 are left. */
final class Made {
    /** Nothing is as at first, but there is no image. */
    static final Consumer<IceByEar> CHANGED = Made::changed;
    /** As CHANGED, with an image, and changed again since then; sheet 3 holds nothing. */
    static final Consumer<IceByEar> RICH = Made::rich;
    /** As RICH, with an empty tape: its text is read as the sleighs that it tells, which go with the restored image. */
    static final Consumer<IceByEar> NO_TAPE = x -> {
        rich(x);
        x.sleighs();
        x.restore();
        x.make(0, 0, 13);
    };
    /** As many sleighs, places, heard, bytes and items as there may be. */
    static final Consumer<IceByEar> FILLED = Made::filled;
    static final Consumer<IceByEar> NEW = x -> {
    };

    private Made() {
    }

    private static void changed(IceByEar x) {
        Due.ice(x, "9l8c7o6e5/4321/0l5c/987654/3/21/5e6o7/89");
        x.make(0, 2, 3);
        x.make(9, 2, 9);
        x.make(3, 3, 1);
        x.make(63, 3, 1);
        x.make(1, 4, 1);
        x.make(62, 4, 3);
        x.make(20, 0, 0);
        x.make(20, 1, 3);
        x.set(0, 33);
        x.set(1, 40);
        for (int hearer = 0; hearer < 4; hearer++) {
            x.slip(hearer, 5 + 5 * hearer);
            x.hear(hearer, 9 * hearer + 30, 9000 / (40 + hearer));
        }
        x.sleigh(30, 3, 7);
        x.sleigh(20, 9, 2);
        x.sleigh(99, 1, 40);
        Due.way(x, 9, 10, 18, 17, 9);
        sheet(x, 0, 1, 5, 9, 10, 18, 17, 16);
        sheet(x, 1, 2, 24, 63, 62, 61, 1L << 32);
        sheet(x, 2, 0, 9, 1, 0, 1);
        Due.typed(x, "12p3m4");
    }

    private static void rich(IceByEar x) {
        changed(x);
        x.image();
        x.make(0, 0, 11);
        x.make(30, 1, 2);
        x.make(31, 4, 2);
        x.set(0, 44);
        x.set(1, 50);
        x.slip(1, 12);
        x.hear(3, 50, 200);
        x.sleigh(7, 7, 77);
        x.step(8);
    }

    private static void filled(IceByEar x) {
        for (int sleigh = 0; sleigh < 6; sleigh++) {
            x.sleigh(10 + sleigh, 1 + sleigh, 3 * sleigh);
        }
        x.step(0);
        for (int i = 1; i < 24; i++) {
            x.step(winding(i));
        }
        for (int i = 0; i < 16; i++) {
            x.hear(i % 4, 4 * i, 300 + i % 2);
            x.slip(i % 4, 1);
        }
        Due.typed(x, " ".repeat(136) + "30p3");
        sheet(x, 0, 1, 24, 9, 10, 18, 17, 16);
        sheet(x, 1, 2, 24, 63, 62, 61, 1L << 32);
        sheet(x, 2, 0, 24, 1, 0, 1);
        sheet(x, 3, 1, 24, 5, 6, 7);
        x.image();
    }

    /** The i-th square of a way that winds over the rows. */
    static int winding(int i) {
        int row = i / 8, column = i % 8;
        return 8 * row + (row % 2 == 0 ? column : 7 - column);
    }

    /** A sheet holds a new row whose first items are these. */
    static void sheet(IceByEar x, int sheet, int lane, int n, long... items) {
        x.sheet(sheet, lane, n);
        for (int i = 0; i < items.length; i++) {
            x.item(sheet, lane, i, items[i]);
        }
    }

    /** All 64 squares are of this digit's thickness; the tape is empty then. */
    static void lake(IceByEar x, char digit) {
        x.ice();
        String row = String.valueOf(digit).repeat(8);
        Due.ice(x, (row + "/").repeat(7) + row);
    }

    /** An object with a lake of one thickness, nothing else. */
    static IceByEar lakeOf(char digit) {
        IceByEar x = new IceByEar();
        lake(x, digit);
        return x;
    }

    /** The way becomes the first n squares of the winding one. */
    static void windingWay(IceByEar x, int n) {
        int[] squares = new int[n];
        for (int i = 0; i < n; i++) {
            squares[i] = winding(i);
        }
        Due.way(x, squares);
    }
}
