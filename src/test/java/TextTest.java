/** Promises 6 to 8: type, ice, sleighs. */
public final class TextTest {
    private static final int BAD = IceByEar.BAD, FULL = IceByEar.FULL;
    private static final Due DUE = new Due("TextTest");

    public static void main(String[] args) {
        type();
        tapeIsFull();
        iceBecomes();
        iceFaults();
        iceStays();
        sleighsBecome();
        sleighFaults();
        sleighsStay();
        DUE.end();
    }

    private static void type() {
        IceByEar x = new IceByEar();
        DUE.is("type 0 bytes", x.type('5', 0), BAD);
        DUE.is("type 9 bytes", x.type('5', 9), BAD);
        DUE.is("a byte 31", x.type(31, 1), BAD);
        DUE.is("a byte 127", x.type(127, 1), BAD);
        DUE.is("a byte 255", x.type(-1L, 8), BAD);
        DUE.is("a byte 0 in the middle", x.type(0x350035L, 3), BAD);
        DUE.is("bytes 32 and 126", x.type(0x207EL, 2), 2);
        DUE.is("higher bytes do not count", x.type(0x0035L, 1), 3);
        DUE.is("they can't stand as ice", x.ice(), -21);
        x.type(0x3536L, 2);
        x.type(0x37L, 1);
        DUE.is("ice of three", x.ice(), 3);
        DUE.is("the highest first", x.told(0, 0), 50);
        DUE.is("then the next", x.told(1, 0), 60);
        DUE.is("behind the tape", x.told(2, 0), 70);
    }

    private static void tapeIsFull() {
        IceByEar x = new IceByEar();
        DUE.is("139 bytes", Due.typed(x, " ".repeat(139)), 139);
        DUE.is("141 bytes", x.type(0x3535L, 2), FULL);
        DUE.is("a bad byte is told first", x.type(0x0035L, 2), BAD);
        DUE.is("140 bytes", x.type(0x35L, 1), 140);
        DUE.is("one more", x.type(0x35L, 1), FULL);
        DUE.is("a full tape is read", x.ice(), 1);
        Due.typed(x, " ".repeat(140));
        DUE.is("blanks alone: the end", x.ice(), -160);
        Due.typed(x, " ".repeat(140));
        DUE.is("blanks alone are no sleighs", x.sleighs(), -160);
    }

    private static void iceBecomes() {
        IceByEar x = new IceByEar();
        for (int square = 0; square < 64; square++) {
            x.make(square, 1, 1);
            x.make(square, 2, 9);
            x.make(square, 3, 1);
            x.make(square, 4, 3);
        }
        DUE.is("squares told", Due.ice(x, "0l1c2o3e4/9 e/5"), 7);
        int[] squares = {0, 1, 2, 3, 4, 8, 16};
        int[] thickness = {0, 10, 20, 30, 40, 90, 50};
        int[] kinds = {1, 2, 3, 4, 0, 4, 0};
        for (int i = 0; i < squares.length; i++) {
            DUE.is("thickness read", x.told(squares[i], 0), thickness[i]);
            DUE.is("kind read", x.told(squares[i], 1), kinds[i]);
            for (int what = 2; what <= 4; what++) {
                DUE.is("nothing on it", x.told(squares[i], what), 0);
            }
        }
        for (int square : new int[] {5, 7, 9, 17, 24, 63}) {
            DUE.is("others stay thick", x.told(square, 0), 30);
            DUE.is("others keep snow", x.told(square, 2), 9);
            DUE.is("others keep planks", x.told(square, 4), 3);
        }
        String row = "5e5e5e5e5e5e5e5e";
        DUE.is("a whole lake", Due.ice(x, (row + "/").repeat(7) + row), 64);
        DUE.is("the last square", x.told(63, 1), 4);
    }

    private static void iceFaults() {
        String[] texts = {"", "   ", "x", "5/", "5/ ", "5//5", "/5", "5l/5ll", "5 5 x", "55555555 5", "5555555l5",
            "5/5/5/5/5/5/5/5/5", "5/5/5/5/5/5/5/5 /", "l", "5,5", "5L", "5g", "5-5", " 5 l l"};
        int[] places = {0, 3, 0, 2, 3, 2, 0, 5, 4, 9, -1, 15, 16, 0, 1, 1, 1, 1, 5};
        for (int i = 0; i < texts.length; i++) {
            IceByEar x = new IceByEar();
            int want = places[i] < 0 ? 8 : -20 - places[i];
            DUE.is("ice of '" + texts[i] + "'", Due.ice(x, texts[i]), want);
            DUE.is("the tape is empty then", x.type('5', 1), 1);
        }
    }

    private static void iceStays() {
        IceByEar x = new IceByEar();
        x.make(0, 2, 4);
        Due.ice(x, "9l9l/9l9lx");
        for (int square : new int[] {0, 1, 8, 9}) {
            DUE.is("by a fault the thickness stays", x.told(square, 0), 30);
            DUE.is("by a fault the kind stays", x.told(square, 1), 0);
        }
        DUE.is("by a fault the snow stays", x.told(0, 2), 4);
        DUE.is("then a lesser text", Due.ice(x, "1"), 1);
        DUE.is("nothing of the faulty one comes in", x.told(1, 0), 30);
    }

    private static void sleighsBecome() {
        IceByEar x = new IceByEar();
        x.sleigh(99, 9, 99);
        x.step(0);
        DUE.is("sleighs read", Due.sleighs(x, "30p3, 007p1m00099 ,99p9m0"), 3);
        DUE.is("in place of those told", x.count(0), 3);
        DUE.is("the first's need", x.need(0, 0), 39);
        DUE.is("the third meets the first", x.need(2, 0), IceByEar.NOT);
        x.home();
        DUE.is("six", Due.sleighs(x, "1p1,2p2m1,3p3m2,4p4m3,5p5m4,6p6m5"), 6);
        DUE.is("the last's need", x.need(5, 0), 9 + 2);
        DUE.is("one", Due.sleighs(x, " 9 9 p 9"), -23);
        DUE.is("one again", Due.sleighs(x, " 99 p 9 m 99 "), 1);
        DUE.is("its need", x.need(0, 0), 188);
        x.sleigh(99, 9, 99);
        DUE.is("its start", x.need(1, 0), IceByEar.NOT);
    }

    private static void sleighFaults() {
        String[] texts = {"", "  ", "p1", "0p1", "100p1", "00p1", "99999999999999999999p1", "5", "5 ", "5p", "5p0",
            "5pp", "5p12", "5p1 2", "5p1m", "5p1m ", "5p1m100", "5p1m 100", "5p1mx", "5p1m5m5", "5p1m5 5", "5p1,",
            ",5p1", "5p1,,", "5p1,0p1", "5 5p1", "5p1;", "5m1p1", "1p1,1p1,1p1,1p1,1p1,1p1,1p1",
            "1p1,1p1,1p1,1p1,1p1,1p1,", "1p1,1p1,1p1,1p1,1p1,1p1x", "-5p1", "5p1m-1", "100", "100 x"};
        int[] places = {0, 2, 0, 0, 0, 0, 0, 1, 2, 2, 2, 2, 3, 4, 4, 5, 4, 5, 4, 5, 6, 4, 0, 4, 4, 2, 3, 1, 23, 23, 23,
            0, 4, 0, 0};
        for (int i = 0; i < texts.length; i++) {
            IceByEar x = new IceByEar();
            DUE.is("sleighs of '" + texts[i] + "'", Due.sleighs(x, texts[i]), -20 - places[i]);
            DUE.is("the tape is empty then", x.type('5', 1), 1);
        }
    }

    private static void sleighsStay() {
        IceByEar x = new IceByEar();
        x.step(0);
        x.sleigh(10, 1, 0);
        DUE.is("a fault in the second", Due.sleighs(x, "50p5,50"), -27);
        DUE.is("those told stay", x.count(0), 1);
        DUE.is("as they were", x.need(0, 0), 11);
        DUE.is("they go on", x.sleigh(20, 1, 1), 1);
        DUE.is("ice leaves them", Due.ice(x, "5"), 1);
        DUE.is("still two", x.count(0), 2);
    }
}
