/** Promises 10 to 17: sleigh, home, step, back, need, breaks, cracks, crack. */
public final class SleighTest {
    private static final int BAD = IceByEar.BAD, NOT = IceByEar.NOT, FULL = IceByEar.FULL, NONE = IceByEar.NONE;
    private static final Due DUE = new Due("SleighTest");

    public static void main(String[] args) {
        sleigh();
        home();
        step();
        back();
        need();
        needMeets();
        breaksByWeight();
        breaksByMeeting();
        breaksInOrder();
        cracks();
        crack();
        DUE.end();
    }

    private static void sleigh() {
        IceByEar x = new IceByEar();
        int[][] bad = {{0, 1, 0}, {100, 1, 0}, {1, 0, 0}, {1, 10, 0}, {1, 1, -1}, {1, 1, 100}, {-1, -1, -1}};
        for (int[] b : bad) {
            DUE.is("a bad sleigh", x.sleigh(b[0], b[1], b[2]), BAD);
        }
        DUE.is("none came", x.count(0), 0);
        DUE.is("the least", x.sleigh(1, 1, 0), 0);
        DUE.is("the greatest", x.sleigh(99, 9, 99), 1);
        for (int i = 2; i < 6; i++) {
            DUE.is("its number", x.sleigh(5, 5, 5), i);
        }
        DUE.is("six are enough", x.sleigh(5, 5, 5), FULL);
        DUE.is("bad is told first", x.sleigh(0, 5, 5), BAD);
        DUE.is("six", x.count(0), 6);
    }

    private static void home() {
        IceByEar x = new IceByEar();
        DUE.is("nobody goes", x.home(), 0);
        x.sleigh(1, 1, 1);
        x.sleigh(1, 1, 1);
        DUE.is("two go", x.home(), 2);
        DUE.is("none are left", x.count(0), 0);
        DUE.is("numbers start anew", x.sleigh(7, 1, 1), 0);
    }

    private static void step() {
        IceByEar x = new IceByEar();
        DUE.is("step -1", x.step(-1), BAD);
        DUE.is("step 64", x.step(64), BAD);
        DUE.is("anywhere at first", x.step(9), 1);
        for (int square : new int[] {9, 0, 2, 16, 18, 11, 25, 63}) {
            DUE.is("not next", x.step(square), NOT);
        }
        int[] around = {1, 9, 8, 9, 10, 9, 17, 9};
        for (int i = 0; i < around.length; i++) {
            DUE.is("next", x.step(around[i]), i + 2);
        }
        Due.way(x, 7);
        DUE.is("no step over the edge", x.step(8), NOT);
        Due.way(x, 8);
        DUE.is("no step back over the edge", x.step(7), NOT);
        Due.way(x, 63);
        DUE.is("no step below", x.step(64), BAD);
        Due.way(x, 0);
        for (int i = 1; i < 24; i++) {
            DUE.is("to and fro", x.step(i % 2), i + 1);
        }
        DUE.is("24 are enough", x.step(0), FULL);
        DUE.is("not next is told first", x.step(1), NOT);
        DUE.is("bad is told first", x.step(99), BAD);
    }

    private static void back() {
        IceByEar x = new IceByEar();
        DUE.is("back on no way", x.back(1), NOT);
        Due.way(x, 0, 1, 2, 3);
        DUE.is("back 0", x.back(0), BAD);
        DUE.is("back 25", x.back(25), BAD);
        DUE.is("back 5 of 4", x.back(5), NOT);
        DUE.is("back 24 of 4", x.back(24), NOT);
        DUE.is("back 2 of 4", x.back(2), 2);
        DUE.is("the last one is 1", x.step(9), 3);
        DUE.is("back all", x.back(3), 0);
        DUE.is("anywhere again", x.step(60), 1);
    }

    private static void need() {
        IceByEar x = new IceByEar();
        DUE.is("no sleigh", x.need(0, 0), BAD);
        x.sleigh(33, 7, 10);
        DUE.is("no place", x.need(0, 0), BAD);
        Due.way(x, 0, 1, 2, 3);
        DUE.is("alone, cut", x.need(0, 0), 56);
        x.sleigh(95, 9, 0);
        DUE.is("one 10 minutes earlier", x.need(0, 0), 56 + 8);
        DUE.is("one 12 minutes earlier", x.need(0, 1), 56 + 7);
        DUE.is("nobody earlier", x.need(1, 3), 180);
        x.sleigh(50, 9, 15);
        DUE.is("two earlier, each cut", x.need(2, 0), 95 + 5 + 4);
        DUE.is("two earlier by 3 and by 15 minutes", x.need(2, 1), 95 + 7 + 5);
        DUE.is("sleigh 3", x.need(3, 0), BAD);
        DUE.is("sleigh -1", x.need(-1, 0), BAD);
        DUE.is("place 4", x.need(0, 4), BAD);
        DUE.is("place -1", x.need(0, -1), BAD);
    }

    private static void needMeets() {
        IceByEar x = new IceByEar();
        Due.way(x, 0, 1, 2, 3);
        x.sleigh(10, 8, 4);
        x.sleigh(10, 6, 0);
        DUE.is("before they meet", x.need(1, 1), 16);
        DUE.is("where they meet, the greater number", x.need(1, 2), NOT);
        DUE.is("where they meet, the lesser number", x.need(0, 2), 18);
        DUE.is("behind", x.need(1, 3), 16 + 4);
        DUE.is("ahead", x.need(0, 1), 18 + 3);
    }

    private static void breaksByWeight() {
        IceByEar x = new IceByEar();
        DUE.is("nobody", x.breaks(0), NONE);
        x.sleigh(50, 8, 7);
        DUE.is("no way", x.breaks(0), NONE);
        Due.way(x, 0, 1, 2, 10);
        DUE.is("just borne", x.breaks(0), NONE);
        x.make(2, 0, 29);
        DUE.is("who", x.breaks(0), 0);
        DUE.is("where", x.breaks(1), 2);
        DUE.is("when", x.breaks(2), 11);
        DUE.is("how many crack", x.breaks(3), 1);
        x.make(3, 0, 5);
        x.make(4, 0, 5);
        DUE.is("more crack", x.breaks(3), 3);
        x.make(2, 4, 1);
        DUE.is("by a plank", x.breaks(0), NONE);
        DUE.is("breaks -1", x.breaks(-1), BAD);
        DUE.is("breaks 4", x.breaks(4), BAD);
        x.home();
        DUE.is("bad is told first", x.breaks(4), BAD);
    }

    private static void breaksByMeeting() {
        IceByEar x = new IceByEar();
        Due.way(x, 8, 9, 10);
        x.sleigh(1, 8, 2);
        x.sleigh(1, 7, 0);
        DUE.is("the greater number", x.breaks(0), 1);
        DUE.is("where they meet", x.breaks(1), 10);
        DUE.is("when they meet", x.breaks(2), 6);
        x.back(1);
        DUE.is("they do not meet", x.breaks(0), NONE);
    }

    private static void breaksInOrder() {
        IceByEar x = new IceByEar();
        Due.way(x, 0, 1, 2, 3);
        x.sleigh(60, 9, 20);
        x.sleigh(60, 9, 10);
        x.sleigh(60, 9, 12);
        DUE.is("the earliest, not the least number", x.breaks(0), 1);
        DUE.is("in its minute", x.breaks(2), 10);
        x.home();
        x.sleigh(40, 1, 0);
        x.sleigh(60, 1, 9);
        x.make(0, 4, 2);
        x.make(1, 0, 20);
        x.make(0, 0, 10);
        DUE.is("at a place farther on", x.breaks(0), 0);
        DUE.is("at its place", x.breaks(1), 1);
        x.home();
        x.sleigh(40, 1, 0);
        x.sleigh(99, 9, 9);
        DUE.is("of one minute the least number", x.breaks(0), 0);
        DUE.is("in that minute", x.breaks(2), 9);
        x.home();
        x.sleigh(99, 9, 9);
        x.sleigh(40, 1, 0);
        DUE.is("of one minute the least number again", x.breaks(0), 0);
        DUE.is("on its square", x.breaks(1), 0);
        x.home();
        x.sleigh(60, 1, 9);
        x.sleigh(40, 1, 0);
        DUE.is("by minutes again", x.breaks(0), 1);
        x.make(0, 4, 0);
        DUE.is("by place 0", x.breaks(1), 0);
        DUE.is("by minute 0", x.breaks(2), 0);
        x.home();
        Due.ice(x, "3333");
        x.sleigh(40, 9, 0);
        x.sleigh(45, 9, 1);
        DUE.is("the wave of the first breaks the second", x.breaks(0), 1);
        DUE.is("at once", x.breaks(1), 0);
    }

    private static void cracks() {
        IceByEar x = new IceByEar();
        DUE.is("cracks -1", x.cracks(-1), BAD);
        DUE.is("cracks 64", x.cracks(64), BAD);
        DUE.is("alone, though thick", x.cracks(20), 1L << 20);
        x.make(21, 0, 19);
        x.make(22, 0, 20);
        x.make(13, 0, 0);
        x.make(29, 0, 19);
        x.make(37, 0, 19);
        x.make(28, 0, 30);
        long want = 1L << 20 | 1L << 21 | 1L << 13 | 1L << 29 | 1L << 37;
        DUE.is("on and on", x.cracks(20), want);
        DUE.is("from the thick one that it does not reach", x.cracks(22), want & ~(1L << 20) | 1L << 22);
        x.set(0, 0);
        DUE.is("below 0 is nothing", x.cracks(13), 1L << 13);
        x.set(0, 31);
        DUE.is("all", x.cracks(0), -1L);
        IceByEar y = new IceByEar();
        y.make(7, 0, 0);
        y.make(8, 0, 0);
        DUE.is("not over the edge", y.cracks(7), 1L << 7);
        DUE.is("not back over the edge", y.cracks(8), 1L << 8);
        IceByEar z = new IceByEar();
        Due.ice(z, "11111111/99999991/11111111/19999999/11111111/99999991/11111111/19999999");
        DUE.is("a long winding crack", Long.bitCount(z.cracks(0)), 36);
        DUE.is("cracks changes nothing", z.count(3), 0);
    }

    private static void crack() {
        IceByEar x = new IceByEar();
        DUE.is("crack -1", x.crack(-1), BAD);
        DUE.is("crack 64", x.crack(64), BAD);
        DUE.is("nothing cracked", x.count(3), 0);
        x.make(1, 0, 5);
        x.make(2, 0, 0);
        x.make(3, 0, 5);
        x.make(0, 1, 2);
        x.make(1, 1, 3);
        x.make(1, 2, 2);
        x.make(1, 4, 1);
        DUE.is("how many squares, water too", x.crack(0), 4);
        DUE.is("all water", x.count(3), 4);
        DUE.is("the start, too", x.told(0, 0), 0);
        DUE.is("the start's kind stays", x.told(0, 1), 2);
        DUE.is("the kind stays", x.told(1, 1), 3);
        DUE.is("the snow stays", x.told(1, 2), 2);
        DUE.is("the planks stay", x.told(1, 4), 1);
        DUE.is("others stay", x.told(8, 0), 30);
    }
}
