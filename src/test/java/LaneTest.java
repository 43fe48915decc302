import java.lang.reflect.Field;
import java.lang.reflect.Modifier;
import java.util.ArrayList;
import java.util.List;

/**
 * Promises 31, 32 and 34 as to the items of LANE 0. No call answers what these are, so this test alone looks inside the
 * object: at its rows of boolean, of which there is one a sheet, in the sheets' order. Whoever holds them otherwise, as
 * the document leaves free, changes rows() with it.
 */
public final class LaneTest {
    private static final Due DUE = new Due("LaneTest");

    public static void main(String[] args) throws ReflectiveOperationException {
        itemIsWhetherItIsNot0();
        onlyThatItemChanges();
        filmTellsEachSquareOfTheRow();
        filmComesFromOneOn();
        refusedFilmLeavesTheItems();
        aNewRowIsOfFalse();
        imagesLeaveTheItems();
        DUE.end();
    }

    private static List<boolean[]> rows(Object of) throws ReflectiveOperationException {
        List<boolean[]> found = new ArrayList<>();
        if (of instanceof boolean[] row) {
            found.add(row);
        } else if (of instanceof Object[] all) {
            for (Object one : all) {
                found.addAll(rows(one));
            }
        } else if (of != null && of.getClass().getName().startsWith("IceByEar")) {
            for (Field field : of.getClass().getDeclaredFields()) {
                if (!field.getType().isPrimitive() && !Modifier.isStatic(field.getModifiers())) {
                    field.setAccessible(true);
                    found.addAll(rows(field.get(of)));
                }
            }
        }
        return found;
    }

    /** The first items of a sheet are these, 1 for true. */
    private static void items(String when, IceByEar x, int sheet, String want) throws ReflectiveOperationException {
        List<boolean[]> rows = rows(x);
        DUE.is("rows of boolean", rows.size(), 4);
        boolean[] row = rows.get(sheet);
        StringBuilder is = new StringBuilder();
        for (int i = 0; i < want.length(); i++) {
            is.append(i < row.length && row[i] ? '1' : '0');
        }
        DUE.holds(when + ": items are " + is + ", due is " + want, is.toString().equals(want));
    }

    private static void itemIsWhetherItIsNot0() throws ReflectiveOperationException {
        long[] values = {0, 1, -1, 2, 256, 1L << 32, Long.MIN_VALUE, Long.MAX_VALUE};
        for (long v : values) {
            for (long before = 0; before <= 1; before++) {
                IceByEar x = new IceByEar();
                x.sheet(1, 0, 3);
                x.item(1, 0, 1, before);
                DUE.is("item", x.item(1, 0, 1, v), 1);
                items("item " + v, x, 1, v == 0 ? "000" : "010");
            }
        }
    }

    private static void onlyThatItemChanges() throws ReflectiveOperationException {
        IceByEar x = new IceByEar();
        for (int sheet = 0; sheet < 4; sheet++) {
            x.sheet(sheet, 0, 24);
        }
        x.item(2, 0, 0, 1);
        x.item(2, 0, 23, 1);
        items("both ends", x, 2, "1" + "0".repeat(22) + "1");
        for (int sheet : new int[] {0, 1, 3}) {
            items("another sheet", x, sheet, "0".repeat(24));
        }
        DUE.is("refused", x.item(2, 0, 24, 1), IceByEar.INDEX);
        DUE.is("refused", x.item(2, 1, 5, 1), IceByEar.CAST);
        items("refused", x, 2, "1" + "0".repeat(22) + "1");
    }

    private static void filmTellsEachSquareOfTheRow() throws ReflectiveOperationException {
        for (int row = 0; row < 8; row++) {
            IceByEar x = new IceByEar();
            x.sheet(3, 0, 8);
            x.make(8 * row, 0, 0);
            x.make(8 * row + 3, 0, 1);
            x.make(8 * row + 4, 0, 0);
            x.make(8 * row + 4, 4, 3);
            x.make(8 * row + 6, 0, 99);
            DUE.is("how many have", x.film(row, 3, 0), 6);
            items("row " + row, x, 3, "01110111");
            x.make(8 * row, 0, 1);
            x.make(8 * row + 7, 0, 0);
            DUE.is("how many have then", x.film(row, 3, 0), 6);
            items("row " + row + " again", x, 3, "11110110");
        }
    }

    private static void filmComesFromOneOn() throws ReflectiveOperationException {
        for (int from = 0; from <= 16; from++) {
            IceByEar x = new IceByEar();
            x.sheet(0, 0, 24);
            x.make(9, 0, 0);
            for (int i = 0; i < 24; i++) {
                x.item(0, 0, i, i % 2);
            }
            DUE.is("how many have", x.film(1, 0, from), 7);
            String before = "01".repeat(12);
            items("from " + from, x, 0, before.substring(0, from) + "10111111" + before.substring(from + 8));
        }
    }

    private static void refusedFilmLeavesTheItems() throws ReflectiveOperationException {
        IceByEar x = new IceByEar();
        x.sheet(0, 0, 9);
        x.item(0, 0, 8, 1);
        DUE.is("beyond", x.film(0, 0, 2), IceByEar.INDEX);
        DUE.is("from below", x.film(0, 0, -1), IceByEar.INDEX);
        DUE.is("no row", x.film(8, 0, 0), IceByEar.BAD);
        items("refused", x, 0, "000000001");
    }

    private static void aNewRowIsOfFalse() throws ReflectiveOperationException {
        IceByEar x = new IceByEar();
        x.sheet(0, 0, 24);
        filmAll(x);
        items("all", x, 0, "1".repeat(24));
        DUE.is("refused", x.sheet(0, 0, 25), IceByEar.BAD);
        DUE.is("refused", x.sheet(0, 0, -1), IceByEar.SIZE);
        items("refused", x, 0, "1".repeat(24));
        x.sheet(0, 0, 24);
        items("new", x, 0, "0".repeat(24));
        filmAll(x);
        x.drop(0);
        x.sheet(0, 0, 24);
        items("new behind a drop", x, 0, "0".repeat(24));
    }

    private static void filmAll(IceByEar x) {
        for (int from = 0; from <= 16; from += 8) {
            x.film(0, 0, from);
        }
    }

    private static void imagesLeaveTheItems() throws ReflectiveOperationException {
        IceByEar x = new IceByEar();
        x.sheet(0, 0, 8);
        x.image();
        x.film(0, 0, 0);
        x.restore();
        items("restored", x, 0, "11111111");
    }
}
