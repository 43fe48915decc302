/** Promises 18 to 20: road, most, planks. */
public final class RoadTest {
    private static final int BAD = IceByEar.BAD, NONE = IceByEar.NONE;
    private static final Due DUE = new Due("RoadTest");

    public static void main(String[] args) {
        roadRefuses();
        roadOfOne();
        roadStepByStep();
        roadAround();
        roadWinds();
        most();
        planks();
        planksLaidAlready();
        DUE.end();
    }

    private static void roadRefuses() {
        IceByEar x = new IceByEar();
        int[][] bad = {{-1, 0, 1, 1, 0}, {64, 0, 1, 1, 0}, {0, -1, 1, 1, 0}, {0, 64, 1, 1, 0}, {0, 1, 0, 1, 0},
            {0, 1, 100, 1, 0}, {0, 1, 1, 0, 0}, {0, 1, 1, 10, 0}, {0, 1, 1, 1, -2}, {0, 1, 1, 1, 64}};
        for (int[] b : bad) {
            DUE.is("a bad road", x.road(b[0], b[1], b[2], b[3], b[4]), BAD);
        }
        DUE.is("no i-th", x.road(0, 1, 1, 1, 2), NONE);
        DUE.is("no 63rd", x.road(0, 1, 1, 1, 63), NONE);
        x.make(0, 0, 0);
        DUE.is("the first does not bear", x.road(0, 1, 1, 1, -1), NONE);
        DUE.is("the last does not bear", x.road(1, 0, 1, 1, -1), NONE);
        DUE.is("a bad i is told first", x.road(0, 1, 1, 1, 64), BAD);
    }

    private static void roadOfOne() {
        IceByEar x = new IceByEar();
        DUE.is("to the same", x.road(9, 9, 50, 8, -1), 1);
        DUE.is("it is of it", x.road(9, 9, 50, 8, 0), 9);
        DUE.is("no more", x.road(9, 9, 50, 8, 1), NONE);
        DUE.is("too heavy", x.road(9, 9, 51, 8, -1), NONE);
    }

    private static void roadStepByStep() {
        IceByEar x = new IceByEar();
        road(x, 27, 9, 27, 19, 11, 10, 9);
        road(x, 27, 13, 27, 19, 11, 12, 13);
        road(x, 27, 41, 27, 26, 25, 33, 41);
        road(x, 27, 45, 27, 28, 29, 37, 45);
        road(x, 0, 1, 0, 1);
        road(x, 1, 0, 1, 0);
        x.make(11, 0, 0);
        road(x, 27, 9, 27, 19, 18, 10, 9);
        x.make(18, 0, 0);
        road(x, 27, 9, 27, 26, 25, 17, 9);
    }

    private static void road(IceByEar x, int from, int to, int... want) {
        DUE.is("squares of a road", x.road(from, to, 10, 1, -1), want.length);
        for (int i = 0; i < want.length; i++) {
            DUE.is(from + " to " + to + ", square " + i, x.road(from, to, 10, 1, i), want[i]);
        }
        DUE.is("no more", x.road(from, to, 10, 1, want.length), NONE);
    }

    private static void roadAround() {
        IceByEar x = new IceByEar();
        for (int row = 0; row < 7; row++) {
            x.make(row * 8 + 3, 0, 0);
        }
        DUE.is("around", x.road(0, 4, 10, 1, -1), 19);
        DUE.is("by the gap", x.road(0, 4, 10, 1, 10), 59);
        x.make(59, 0, 0);
        DUE.is("no gap", x.road(0, 4, 10, 1, -1), NONE);
        x.make(3, 4, 1);
        DUE.is("over a plank", x.road(0, 4, 10, 1, -1), 5);
        DUE.is("a plank is not enough", x.road(0, 4, 60, 1, -1), NONE);
    }

    private static void roadWinds() {
        IceByEar x = new IceByEar();
        Due.ice(x, "99999999/00000009/99999999/90000000/99999999/00000009/99999999/90000000");
        DUE.is("a winding road", x.road(0, 56, 99, 9, -1), 36);
        DUE.is("its end", x.road(0, 56, 99, 9, 35), 56);
        DUE.is("its way back", x.road(56, 0, 99, 9, 35), 0);
    }

    private static void most() {
        IceByEar x = new IceByEar();
        DUE.is("by pace 1", x.most(0, 63, 1), 82);
        DUE.is("by pace 9", x.most(0, 63, 9), 47);
        x.make(9, 0, 99);
        DUE.is("99 at most", x.most(9, 9, 9), 99);
        x.make(9, 0, 0);
        DUE.is("not even 1", x.most(9, 0, 1), NONE);
        DUE.is("not even 1 to there", x.most(0, 9, 1), NONE);
        x.make(9, 0, 3);
        DUE.is("bears 0", x.most(9, 9, 1), NONE);
        x.make(9, 0, 4);
        DUE.is("bears 1: 1 times 19 by 10 is 1", x.most(9, 9, 9), 1);
        x.make(0, 0, 20);
        DUE.is("by the weakest", x.most(0, 63, 5), 27);
        int[][] bad = {{-1, 0, 1}, {64, 0, 1}, {0, -1, 1}, {0, 64, 1}, {0, 0, 0}, {0, 0, 10}};
        for (int[] b : bad) {
            DUE.is("a bad most", x.most(b[0], b[1], b[2]), BAD);
        }
    }

    private static void planks() {
        IceByEar x = new IceByEar();
        int[][] bad = {{-1, 0, 1, 1}, {64, 0, 1, 1}, {0, -1, 1, 1}, {0, 64, 1, 1}, {0, 0, 0, 1}, {0, 0, 100, 1},
            {0, 0, 1, 0}, {0, 0, 1, 10}};
        for (int[] b : bad) {
            DUE.is("bad planks", x.planks(b[0], b[1], b[2], b[3]), BAD);
        }
        DUE.is("none are needed", x.planks(0, 63, 50, 8), 0);
        DUE.is("all are needed", x.planks(0, 63, 51, 8), 15);
        DUE.is("from there to there", x.planks(5, 5, 99, 9), 1);
        Due.ice(x, "90909090/90909090/90909090/90909090/90909090/90909090/90909090/99909990");
        DUE.is("the fewest, however long", x.planks(0, 7, 60, 2), 2);
        DUE.is("three each", x.planks(0, 7, 99, 8), 2);
        DUE.is("180 on water and no more", x.planks(0, 7, 95, 9), 2);
        DUE.is("not by three each", x.planks(0, 7, 99, 9), NONE);
        DUE.is("where none are needed", x.planks(0, 2, 99, 9), 0);
        DUE.is("nothing is laid", x.count(4), 0);
    }

    private static void planksLaidAlready() {
        IceByEar x = new IceByEar();
        Due.ice(x, "909/000/000/000/000/000/000/00000000");
        for (int row = 0; row < 8; row++) {
            x.make(row * 8 + 3, 0, 0);
        }
        x.make(1, 4, 2);
        DUE.is("two of them bear it, but come off", x.planks(0, 2, 99, 2), 1);
        DUE.is("two of them do not, three do", x.planks(0, 2, 99, 5), 1);
        DUE.is("three, not five", x.planks(0, 2, 99, 9), NONE);
        x.make(1, 4, 3);
        DUE.is("three come off and are laid again", x.planks(0, 2, 1, 1), 1);
        x.make(0, 4, 3);
        x.make(2, 4, 3);
        DUE.is("ice that bears it bare needs none", x.planks(0, 2, 1, 1), 1);
        x.make(0, 0, 0);
        x.make(2, 0, 0);
        DUE.is("the first and the last are of the road", x.planks(0, 2, 1, 1), 3);
        DUE.is("from there to there", x.planks(0, 0, 1, 1), 1);
        DUE.is("a road counts them as they are", x.road(0, 2, 99, 8, -1), 3);
        DUE.is("asking takes none off", x.count(4), 9);
    }
}
