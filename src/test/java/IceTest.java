/** Promises 1 to 5 and 9: a new object, make, told, days, set, count. */
public final class IceTest {
    private static final int BAD = IceByEar.BAD, NONE = IceByEar.NONE;
    private static final Due DUE = new Due("IceTest");

    public static void main(String[] args) {
        newObject();
        make();
        makeRefuses();
        told();
        days();
        daysByTheDay();
        daysRefuse();
        set();
        count();
        DUE.end();
    }

    private static void newObject() {
        IceByEar x = new IceByEar();
        for (int square = 0; square < 64; square++) {
            DUE.is("thickness at first", x.told(square, 0), 30);
            for (int what = 1; what <= 4; what++) {
                DUE.is("told at first of " + what, x.told(square, what), 0);
            }
        }
        for (int what = 0; what <= 4; what++) {
            DUE.is("count at first of " + what, x.count(what), 0);
        }
        DUE.is("THE CRACK at first", x.set(0, 20), 20);
        DUE.is("STEEP at first", x.set(1, 10), 10);
        for (int hearer = 0; hearer < 4; hearer++) {
            DUE.is("slip at first", x.slip(hearer, 0), 0);
        }
        for (int sheet = 0; sheet < 4; sheet++) {
            DUE.is("sheet at first", x.drop(sheet), IceByEar.NULL);
        }
        DUE.is("image at first", x.restore(), NONE);
        DUE.is("tape at first", x.type('5', 1), 1);
    }

    private static void make() {
        IceByEar x = new IceByEar();
        int[] most = {99, 4, 9, 1, 3};
        for (int what = 0; what < 5; what++) {
            DUE.is("make answers what it was", x.make(63, what, most[what]), what == 0 ? 30 : 0);
            DUE.is("made", x.told(63, what), most[what]);
            DUE.is("make the least", x.make(63, what, 0), most[what]);
            DUE.is("made the least", x.told(63, what), 0);
            DUE.is("another square stays", x.told(62, what), what == 0 ? 30 : 0);
        }
        x.make(5, 1, 3);
        x.make(5, 0, 0);
        x.make(5, 0, 40);
        DUE.is("make does not turn the kind grey", x.told(5, 1), 3);
    }

    private static void makeRefuses() {
        IceByEar x = new IceByEar();
        int[] most = {99, 4, 9, 1, 3};
        for (int what = 0; what < 5; what++) {
            DUE.is("make above", x.make(0, what, most[what] + 1), BAD);
            DUE.is("make below", x.make(0, what, -1), BAD);
            DUE.is("make the greatest int", x.make(0, what, Integer.MAX_VALUE), BAD);
            DUE.is("nothing made", x.told(0, what), what == 0 ? 30 : 0);
        }
        DUE.is("make square -1", x.make(-1, 0, 1), BAD);
        DUE.is("make square 64", x.make(64, 0, 1), BAD);
        DUE.is("make what -1", x.make(0, -1, 1), BAD);
        DUE.is("make what 5", x.make(0, 5, 1), BAD);
        DUE.is("make what least int", x.make(0, Integer.MIN_VALUE, 1), BAD);
    }

    private static void told() {
        IceByEar x = new IceByEar();
        int[] bears = {980, 612, 367, 245, 857};
        for (int kind = 0; kind <= 4; kind++) {
            x.make(9, 0, 99);
            x.make(9, 1, kind);
            DUE.is("bears by kind", x.told(9, 5), bears[kind]);
            DUE.is("pitch by kind", x.told(9, 6), 90 + 7 * kind);
        }
        x.make(9, 1, 0);
        x.make(9, 0, 7);
        DUE.is("bears, cut", x.told(9, 5), 4);
        DUE.is("pitch, cut", x.told(9, 6), 1285);
        x.make(9, 0, 1);
        DUE.is("the highest pitch", x.told(9, 6), 9000);
        x.make(9, 0, 7);
        x.make(9, 4, 3);
        DUE.is("bears by planks", x.told(9, 5), 184);
        x.make(9, 0, 0);
        DUE.is("planks on water", x.told(9, 5), 180);
        DUE.is("no pitch", x.told(9, 6), NONE);
        DUE.is("told square -1", x.told(-1, 0), BAD);
        DUE.is("told square 64", x.told(64, 0), BAD);
        DUE.is("told what -1", x.told(0, -1), BAD);
        DUE.is("told what 7", x.told(0, 7), BAD);
    }

    private static void days() {
        IceByEar x = new IceByEar();
        DUE.is("one day of 9", x.days(9, 1), 64 * 39);
        DUE.is("a day leaves the kind", x.told(0, 1), 0);
        DUE.is("seven days more: 99 at most", x.days(9, 7), 64 * 99);
        x.make(0, 3, 1);
        DUE.is("a spring, warm", x.days(0, 1), 64 * 99 - 3);
        DUE.is("a spring, cold: 99 behind both", x.days(9, 1), 64 * 99);
        x.make(1, 0, 2);
        x.make(1, 3, 1);
        x.days(0, 1);
        DUE.is("0 at least", x.told(1, 0), 0);
        x.make(2, 0, 10);
        x.make(2, 2, 3);
        x.days(9, 1);
        DUE.is("under snow, cut", x.told(2, 0), 16);
        x.make(3, 0, 10);
        x.make(3, 2, 9);
        x.days(9, 30);
        DUE.is("under much snow", x.told(3, 0), 10);
    }

    private static void daysByTheDay() {
        IceByEar x = new IceByEar();
        x.make(4, 0, 0);
        x.make(4, 1, 2);
        x.days(0, 1);
        DUE.is("still water keeps its kind", x.told(4, 1), 2);
        x.days(1, 1);
        DUE.is("new ice", x.told(4, 0), 1);
        DUE.is("new ice is grey", x.told(4, 1), 0);
        x.make(5, 0, 1);
        x.make(5, 1, 2);
        x.days(5, 1);
        DUE.is("old ice keeps its kind", x.told(5, 1), 2);
        x.make(6, 0, 1);
        x.make(6, 1, 2);
        x.make(6, 2, 5);
        x.make(6, 3, 1);
        x.days(4, 3);
        DUE.is("snow and a spring: 2 less 3, each day", x.told(6, 0), 0);
        DUE.is("melted ice keeps its kind", x.told(6, 1), 2);
        x.make(7, 0, 0);
        x.make(7, 1, 3);
        x.make(7, 3, 1);
        x.days(3, 1);
        DUE.is("a spring that holds water open", x.told(7, 0), 0);
        DUE.is("open water keeps its kind", x.told(7, 1), 3);
        x.days(4, 1);
        DUE.is("a spring that freezes", x.told(7, 0), 1);
        DUE.is("it is grey", x.told(7, 1), 0);
    }

    private static void daysRefuse() {
        IceByEar x = new IceByEar();
        DUE.is("cold -1", x.days(-1, 1), BAD);
        DUE.is("cold 10", x.days(10, 1), BAD);
        DUE.is("no day", x.days(9, 0), BAD);
        DUE.is("31 days", x.days(9, 31), BAD);
        DUE.is("no day passed", x.days(0, 30), 64 * 30);
    }

    private static void set() {
        IceByEar x = new IceByEar();
        DUE.is("set THE CRACK", x.set(0, 99), 20);
        DUE.is("set STEEP", x.set(1, 0), 10);
        DUE.is("set -1", x.set(0, -1), BAD);
        DUE.is("set 100", x.set(1, 100), BAD);
        DUE.is("set what -1", x.set(-1, 5), BAD);
        DUE.is("set what 2", x.set(2, 5), BAD);
        DUE.is("THE CRACK was", x.set(0, 0), 99);
        DUE.is("STEEP was", x.set(1, 99), 0);
    }

    private static void count() {
        IceByEar x = new IceByEar();
        x.sleigh(1, 1, 1);
        x.sleigh(2, 2, 2);
        Due.way(x, 0, 1, 2);
        x.hear(0, 0, 100);
        x.make(0, 0, 0);
        x.make(63, 0, 0);
        x.make(62, 0, 1);
        x.make(4, 4, 3);
        x.make(5, 4, 2);
        DUE.is("sleighs", x.count(0), 2);
        DUE.is("places", x.count(1), 3);
        DUE.is("heard", x.count(2), 1);
        DUE.is("water", x.count(3), 2);
        DUE.is("planks", x.count(4), 5);
        DUE.is("count -1", x.count(-1), BAD);
        DUE.is("count 5", x.count(5), BAD);
    }
}
