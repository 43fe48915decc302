/** Promises 30 to 34: go, film, sheet, drop, item. */
public final class SheetTest {
    private static final int BAD = IceByEar.BAD, NOT = IceByEar.NOT;
    private static final int NULL = IceByEar.NULL, CAST = IceByEar.CAST, INDEX = IceByEar.INDEX, SIZE = IceByEar.SIZE;
    private static final Due DUE = new Due("SheetTest");

    public static void main(String[] args) {
        sheet();
        drop();
        item();
        goOfBytes();
        goOfLongs();
        goRefuses();
        film();
        DUE.end();
    }

    private static void sheet() {
        IceByEar x = new IceByEar();
        DUE.is("sheet -1", x.sheet(-1, 0, 1), BAD);
        DUE.is("sheet 4", x.sheet(4, 0, 1), BAD);
        DUE.is("lane -1", x.sheet(0, -1, 1), BAD);
        DUE.is("lane 3", x.sheet(0, 3, 1), BAD);
        DUE.is("25 items", x.sheet(0, 0, 25), BAD);
        DUE.is("-1 items", x.sheet(0, 0, -1), SIZE);
        DUE.is("the least number of items", x.sheet(0, 2, Integer.MIN_VALUE), SIZE);
        DUE.is("bad is told first", x.sheet(4, 0, -1), BAD);
        DUE.is("nothing is there", x.drop(0), NULL);
        DUE.is("no items", x.sheet(0, 1, 0), 0);
        DUE.is("there is none", x.item(0, 1, 0, 5), INDEX);
        DUE.is("24 items", x.sheet(0, 1, 24), 24);
        x.item(0, 1, 0, 40);
        DUE.is("a new row", x.sheet(0, 1, 24), 24);
        x.go(0, 1, 0, 1);
        DUE.is("its items are 0", x.step(1), 2);
        x.sheet(0, 1, 3);
        DUE.is("refused", x.sheet(0, 2, -5), SIZE);
        DUE.is("the old row stays", x.item(0, 1, 2, 1), 1);
    }

    private static void drop() {
        IceByEar x = new IceByEar();
        DUE.is("drop -1", x.drop(-1), BAD);
        DUE.is("drop 4", x.drop(4), BAD);
        DUE.is("nothing to drop", x.drop(3), NULL);
        x.sheet(3, 0, 17);
        x.sheet(2, 0, 0);
        DUE.is("how many", x.drop(3), 17);
        DUE.is("none any more", x.drop(3), NULL);
        DUE.is("a row of none", x.drop(2), 0);
        DUE.is("items of nothing", x.item(3, 0, 0, 1), NULL);
    }

    private static void item() {
        IceByEar x = new IceByEar();
        for (int lane = 0; lane < 3; lane++) {
            x.sheet(lane, lane, 5);
            for (int as = 0; as < 3; as++) {
                DUE.is("as a lane", x.item(lane, as, 4, 1), lane == as ? 1 : CAST);
                DUE.is("CAST is told before INDEX", x.item(lane, as, 5, 1), lane == as ? INDEX : CAST);
                DUE.is("below", x.item(lane, as, -1, 1), lane == as ? INDEX : CAST);
            }
        }
        DUE.is("the greatest i", x.item(0, 0, Integer.MAX_VALUE, 1), INDEX);
        DUE.is("the least i", x.item(0, 0, Integer.MIN_VALUE, 1), INDEX);
        DUE.is("NULL is told before INDEX", x.item(3, 0, 99, 1), NULL);
        DUE.is("sheet -1", x.item(-1, 0, 0, 1), BAD);
        DUE.is("sheet 4", x.item(4, 0, 0, 1), BAD);
        DUE.is("lane -1", x.item(0, -1, 0, 1), BAD);
        DUE.is("lane 3", x.item(0, 3, 0, 1), BAD);
        DUE.is("BAD is told before NULL", x.item(3, 3, 0, 1), BAD);
    }

    private static void goOfBytes() {
        IceByEar x = new IceByEar();
        x.sheet(0, 1, 4);
        items(x, 0, 1, 256 + 9, -256 + 10, 18, 9);
        DUE.is("the lowest bits of each", x.go(0, 1, 0, 3), 3);
        DUE.is("the way", x.count(1), 3);
        DUE.is("its end", x.step(26), 4);
        DUE.is("from one on", x.go(0, 1, 1, 2), 2);
        DUE.is("its end again", x.step(19), 3);
        DUE.is("one not next", x.go(0, 1, 0, 4), NOT);
        DUE.is("the way stays", x.count(1), 3);
        DUE.is("its end stays", x.step(27), 4);
        items(x, 0, 1, 128, 64, 255);
        for (int i = 0; i < 3; i++) {
            DUE.is("no square", x.go(0, 1, i, 1), NOT);
        }
        x.sheet(0, 1, 24);
        for (int i = 0; i < 24; i++) {
            x.item(0, 1, i, i % 2);
        }
        DUE.is("24", x.go(0, 1, 0, 24), 24);
        DUE.is("and no more", x.step(0), IceByEar.FULL);
    }

    private static void items(IceByEar x, int sheet, int lane, long... values) {
        for (int i = 0; i < values.length; i++) {
            DUE.is("item", x.item(sheet, lane, i, values[i]), 1);
        }
    }

    private static void goOfLongs() {
        IceByEar x = new IceByEar();
        x.sheet(3, 2, 3);
        items(x, 3, 2, 7, 8, 0);
        DUE.is("not over the edge", x.go(3, 2, 0, 2), NOT);
        DUE.is("one", x.go(3, 2, 0, 1), 1);
        items(x, 3, 2, 0, 1, 2);
        DUE.is("three", x.go(3, 2, 0, 3), 3);
        for (long none : new long[] {64, -1, 1L << 32, 256, Long.MIN_VALUE, Long.MAX_VALUE}) {
            x.item(3, 2, 1, none);
            DUE.is("no square " + none, x.go(3, 2, 0, 3), NOT);
            DUE.is("no square first " + none, x.go(3, 2, 1, 1), NOT);
        }
        DUE.is("the way stays", x.count(1), 3);
    }

    private static void goRefuses() {
        IceByEar x = new IceByEar();
        x.sheet(0, 1, 3);
        x.sheet(1, 0, 3);
        DUE.is("sheet -1", x.go(-1, 1, 0, 1), BAD);
        DUE.is("sheet 4", x.go(4, 1, 0, 1), BAD);
        DUE.is("lane 0", x.go(1, 0, 0, 1), BAD);
        DUE.is("lane 3", x.go(0, 3, 0, 1), BAD);
        DUE.is("0 squares", x.go(0, 1, 0, 0), BAD);
        DUE.is("25 squares", x.go(0, 1, 0, 25), BAD);
        DUE.is("of nothing", x.go(2, 1, 99, 1), NULL);
        DUE.is("of whether", x.go(1, 1, 99, 1), CAST);
        DUE.is("of bytes as longs", x.go(0, 2, 99, 1), CAST);
        DUE.is("from below", x.go(0, 1, -1, 1), INDEX);
        DUE.is("beyond", x.go(0, 1, 3, 1), INDEX);
        DUE.is("beyond by one", x.go(0, 1, 1, 3), INDEX);
        DUE.is("by the greatest int", x.go(0, 1, Integer.MAX_VALUE, 24), INDEX);
        DUE.is("by the least int", x.go(0, 1, Integer.MIN_VALUE, 24), INDEX);
        DUE.is("INDEX is told before NOT", x.go(0, 1, 0, 4), INDEX);
        DUE.is("NOT", x.go(0, 1, 0, 3), NOT);
        DUE.is("BAD is told before NULL", x.go(2, 1, 0, 0), BAD);
    }

    private static void film() {
        IceByEar x = new IceByEar();
        x.sheet(0, 0, 10);
        x.sheet(1, 1, 10);
        x.sheet(3, 0, 7);
        x.make(8, 0, 0);
        x.make(15, 0, 0);
        x.make(12, 0, 1);
        DUE.is("all of the row 0", x.film(0, 0, 0), 8);
        DUE.is("some of the row 1", x.film(1, 0, 2), 6);
        DUE.is("the last row", x.film(7, 0, 1), 8);
        DUE.is("row -1", x.film(-1, 0, 0), BAD);
        DUE.is("row 8", x.film(8, 0, 0), BAD);
        DUE.is("sheet -1", x.film(0, -1, 0), BAD);
        DUE.is("sheet 4", x.film(0, 4, 0), BAD);
        DUE.is("to nothing", x.film(0, 2, 99), NULL);
        DUE.is("to bytes", x.film(0, 1, 99), CAST);
        DUE.is("from below", x.film(0, 0, -1), INDEX);
        DUE.is("beyond", x.film(0, 0, 3), INDEX);
        DUE.is("to a short one", x.film(0, 3, 0), INDEX);
        DUE.is("by the greatest int", x.film(0, 0, Integer.MAX_VALUE), INDEX);
        DUE.is("BAD is told before NULL", x.film(8, 2, 0), BAD);
        DUE.is("the sheet has as many as before", x.drop(0), 10);
    }
}
