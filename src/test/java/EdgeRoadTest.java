/** The edges of promises 18 to 20: road, most, planks. */
public final class EdgeRoadTest {
    private static final int BAD = IceByEar.BAD, NONE = IceByEar.NONE;

    public static void main(String[] args) {
        Edges.run(EdgeRoadTest.class, 18, 19, 20);
    }

    // ---- promise 18: road

    static void p18FromIsASquare() {
        Edges.takes(0, 63, (x, v) -> x.road(v, 9, 1, 1, -1));
    }

    static void p18ToIsASquare() {
        Edges.takes(0, 63, (x, v) -> x.road(9, v, 1, 1, -1));
    }

    static void p18LoadIs1To99() {
        Edges.takes(1, 99, (x, v) -> x.road(0, 9, v, 1, -1));
    }

    static void p18PaceIs1To9() {
        Edges.takes(1, 9, (x, v) -> x.road(0, 9, 1, v, -1));
    }

    static void p18IIsMinus1To63() {
        Edges.takes(-1, 63, (x, v) -> x.road(0, 9, 1, 1, v));
    }

    static void p18BadIsToldBeforeNone() {
        IceByEar x = Made.lakeOf('0');
        Edges.is("no road", x.road(0, 9, 1, 1, -1), NONE);
        Edges.is("i 64", x.road(0, 9, 1, 1, 64), BAD);
        Edges.is("i -2", x.road(0, 9, 1, 1, -2), BAD);
        Edges.is("load 0", x.road(0, 9, 0, 1, -1), BAD);
        Edges.is("load 100", x.road(0, 9, 100, 1, -1), BAD);
        Edges.is("pace 10", x.road(0, 9, 1, 10, -1), BAD);
        Edges.is("to 64", x.road(0, 64, 1, 1, -1), BAD);
    }

    static void p18TheLastIthIsToThereIsNoIthBehindIt() {
        IceByEar x = new IceByEar();
        for (int to : new int[] {0, 1, 8, 7, 56, 63}) {
            int squares = to / 8 + to % 8 + 1;
            Edges.is("squares", x.road(0, to, 1, 1, -1), squares);
            Edges.is("the first", x.road(0, to, 1, 1, 0), 0);
            Edges.is("the last", x.road(0, to, 1, 1, squares - 1), to);
            Edges.is("no more", x.road(0, to, 1, 1, squares), NONE);
            Edges.is("no 63rd", x.road(0, to, 1, 1, 63), NONE);
        }
    }

    static void p18ToTheSameSquareIsOneSquare() {
        IceByEar x = new IceByEar();
        for (int square : new int[] {0, 27, 63}) {
            Edges.is("squares", x.road(square, square, 50, 8, -1), 1);
            Edges.is("it itself", x.road(square, square, 50, 8, 0), square);
            Edges.is("no more", x.road(square, square, 50, 8, 1), NONE);
            Edges.is("too heavy", x.road(square, square, 51, 8, -1), NONE);
            Edges.is("no first one", x.road(square, square, 51, 8, 0), NONE);
        }
    }

    static void p18BothEndsMustBear() {
        IceByEar x = new IceByEar();
        x.make(0, 0, 0);
        Edges.is("the first does not", x.road(0, 1, 1, 1, -1), NONE);
        Edges.is("the last does not", x.road(1, 0, 1, 1, -1), NONE);
        Edges.is("the only one does not", x.road(0, 0, 1, 1, -1), NONE);
        Edges.is("no i-th either", x.road(0, 1, 1, 1, 0), NONE);
    }

    static void p18AsMuchAsItBearsIsBorne() {
        IceByEar x = new IceByEar();
        Edges.is("90 on 90", x.road(0, 63, 82, 1, -1), 15);
        Edges.is("91 on 90", x.road(0, 63, 83, 1, -1), NONE);
        x.make(0, 0, 4);
        Edges.is("1 on 1", x.road(0, 0, 1, 9, -1), 1);
        x.make(0, 0, 3);
        Edges.is("1 on 0", x.road(0, 0, 1, 1, -1), NONE);
        x.make(0, 0, 44);
        Edges.is("188 on 193", x.road(0, 0, 99, 9, -1), 1);
        x.make(0, 0, 43);
        Edges.is("188 on 184", x.road(0, 0, 99, 9, -1), NONE);
    }

    static void p18PlanksCountAsTheyAre() {
        IceByEar x = Made.lakeOf('0');
        Edges.is("0 planks", x.road(5, 5, 1, 1, -1), NONE);
        int[][] borne = {{1, 55, 1}, {2, 80, 5}, {3, 95, 9}};
        for (int[] b : borne) {
            x.make(5, 4, b[0]);
            Edges.is(b[0] + " planks", x.road(5, 5, b[1], b[2], -1), 1);
            Edges.is(b[0] + " planks, too heavy", x.road(5, 5, b[1] + 1, b[2], -1), NONE);
        }
    }

    static void p18OfLikeRoadsUpLeftRightDownStepByStep() {
        IceByEar x = new IceByEar();
        road(x, 27, 9, 27, 19, 11, 10, 9);
        road(x, 27, 13, 27, 19, 11, 12, 13);
        road(x, 27, 41, 27, 26, 25, 33, 41);
        road(x, 27, 45, 27, 28, 29, 37, 45);
        road(x, 0, 9, 0, 1, 9);
        road(x, 9, 0, 9, 1, 0);
        road(x, 8, 1, 8, 0, 1);
        road(x, 1, 8, 1, 0, 8);
    }

    static void p18AStepIsChosenByWhatFollows() {
        IceByEar x = new IceByEar();
        x.make(11, 0, 0);
        road(x, 27, 9, 27, 19, 18, 10, 9);
        x.make(18, 0, 0);
        road(x, 27, 9, 27, 26, 25, 17, 9);
        x.make(25, 0, 0);
        Edges.is("around it", x.road(27, 9, 10, 1, -1), 9);
    }

    private static void road(IceByEar x, int from, int to, int... want) {
        Edges.is(from + " to " + to, x.road(from, to, 10, 1, -1), want.length);
        for (int i = 0; i < want.length; i++) {
            Edges.is(from + " to " + to + ", square " + i, x.road(from, to, 10, 1, i), want[i]);
        }
        Edges.is(from + " to " + to + ", no more", x.road(from, to, 10, 1, want.length), NONE);
    }

    static void p18NoRoadGoesAroundTheEdge() {
        for (int row = 0; row < 7; row++) {
            IceByEar x = Made.lakeOf('0');
            int last = 8 * row + 7;
            x.make(last, 0, 99);
            x.make(last + 1, 0, 99);
            Edges.is("from " + last, x.road(last, last + 1, 1, 1, -1), NONE);
            Edges.is("from " + (last + 1), x.road(last + 1, last, 1, 1, -1), NONE);
        }
        IceByEar x = Made.lakeOf('0');
        for (int corner : new int[] {0, 7, 56, 63}) {
            x.make(corner, 0, 99);
        }
        Edges.is("from side to side", x.road(0, 7, 1, 1, -1), NONE);
        Edges.is("from the top to the bottom", x.road(0, 56, 1, 1, -1), NONE);
        Edges.is("from the bottom to the top", x.road(63, 7, 1, 1, -1), NONE);
    }

    static void p18ALongWindingRoad() {
        IceByEar x = new IceByEar();
        Due.ice(x, "99999999/00000009/99999999/90000000/99999999/00000009/99999999/90000000");
        Edges.is("squares", x.road(0, 56, 99, 9, -1), 36);
        Edges.is("the last", x.road(0, 56, 99, 9, 35), 56);
        Edges.is("no more", x.road(0, 56, 99, 9, 36), NONE);
        Edges.is("the last of the way back", x.road(56, 0, 99, 9, 35), 0);
    }

    static void p18EachSquareIsNextToTheOneBefore() {
        String[] lakes = {
            "99999999/99999999/99999999/99999999/99999999/99999999/99999999/99999999",
            "90999999/90900009/90909909/90909909/90900909/90999909/90000009/99999999",
            "99099099/09909909/09990999/99909990/90999099/99099909/09990999/99909999",
            "99999999/00000009/99999999/90000000/99999999/00000009/99999999/99999999"};
        for (String lake : lakes) {
            for (int to : new int[] {63, 62, 56}) {
                IceByEar x = new IceByEar();
                Due.ice(x, lake);
                int squares = x.road(0, to, 99, 9, -1), before = x.road(0, to, 99, 9, 0);
                Edges.is("there is a road", squares > 0 ? 1 : 0, 1);
                Edges.is("its first", before, 0);
                for (int i = 1; i < squares; i++) {
                    int square = x.road(0, to, 99, 9, i);
                    int far = Math.abs(square / 8 - before / 8) + Math.abs(square % 8 - before % 8);
                    Edges.is(before + " is next to " + square, far, 1);
                    Edges.is(square + " bears it", x.told(square, 0), 90);
                    before = square;
                }
                Edges.is("its last", before, to);
            }
        }
    }

    static void p18NoSleighAndNoWayCount() {
        IceByEar x = new IceByEar();
        Made.FILLED.accept(x);
        Edges.is("alone", x.road(0, 63, 82, 1, -1), 15);
    }

    static void p18RoadChangesNothing() {
        Edges.same("road", Made.RICH.andThen(x -> x.road(0, 63, 1, 1, 3)), Made.RICH);
        Edges.leaves("no road", Made.FILLED, x -> x.road(0, 63, 99, 9, -1), NONE);
    }

    // ---- promise 19: most

    static void p19FromIsASquare() {
        Edges.takes(0, 63, (x, v) -> x.most(v, 9, 1));
    }

    static void p19ToIsASquare() {
        Edges.takes(0, 63, (x, v) -> x.most(9, v, 1));
    }

    static void p19PaceIs1To9() {
        Edges.takes(1, 9, (x, v) -> x.most(0, 9, v));
    }

    static void p19BadIsToldBeforeNone() {
        IceByEar x = Made.lakeOf('0');
        Edges.is("none", x.most(0, 9, 1), NONE);
        Edges.is("pace 0", x.most(0, 9, 0), BAD);
        Edges.is("pace 10", x.most(0, 9, 10), BAD);
        Edges.is("to 64", x.most(0, 64, 1), BAD);
    }

    static void p19TheMostIs99() {
        IceByEar x = new IceByEar();
        x.make(0, 0, 44);
        Edges.is("193 by 9", x.most(0, 0, 9), 99);
        x.make(0, 0, 99);
        x.make(0, 4, 3);
        Edges.is("1160 by 1", x.most(0, 0, 1), 99);
        x.make(0, 4, 0);
        x.make(0, 0, 43);
        Edges.is("184 by 9", x.most(0, 0, 9), 97);
    }

    static void p19TheLeastIs1AndNotEven1IsNone() {
        IceByEar x = new IceByEar();
        for (int pace = 1; pace <= 9; pace++) {
            x.make(0, 0, 4);
            Edges.is("1 by " + pace, x.most(0, 0, pace), 1);
            x.make(0, 0, 3);
            Edges.is("0 by " + pace, x.most(0, 0, pace), NONE);
        }
    }

    static void p19EveryLoadIsTheMostSomewhere() {
        for (int thickness = 0; thickness <= 99; thickness++) {
            IceByEar x = new IceByEar();
            x.make(9, 0, thickness);
            int bears = thickness * thickness / 10;
            for (int pace = 1; pace <= 9; pace++) {
                int want = NONE;
                for (int load = 1; load <= 99; load++) {
                    want = load * (10 + pace) / 10 <= bears ? load : want;
                }
                Edges.is(thickness + " by " + pace, x.most(9, 9, pace), want);
            }
        }
    }

    static void p19TheWeakestOfTheBestRoadTells() {
        IceByEar x = new IceByEar();
        x.make(0, 0, 20);
        Edges.is("from the weakest", x.most(0, 63, 5), 27);
        Edges.is("to the weakest", x.most(63, 0, 5), 27);
        Edges.is("past the weakest", x.most(1, 8, 5), 60);
    }

    static void p19MostChangesNothing() {
        Edges.same("most", Made.RICH.andThen(x -> x.most(0, 63, 1)), Made.RICH);
        Edges.leaves("none", x -> x.most(20, 0, 1), NONE);
    }

    // ---- promise 20: planks

    static void p20FromIsASquare() {
        Edges.takes(0, 63, (x, v) -> x.planks(v, 9, 1, 1));
    }

    static void p20ToIsASquare() {
        Edges.takes(0, 63, (x, v) -> x.planks(9, v, 1, 1));
    }

    static void p20LoadIs1To99() {
        Edges.takes(1, 99, (x, v) -> x.planks(0, 9, v, 1));
    }

    static void p20PaceIs1To9() {
        Edges.takes(1, 9, (x, v) -> x.planks(0, 9, 1, v));
    }

    static void p20BadIsToldBeforeNone() {
        IceByEar x = Made.lakeOf('0');
        Edges.is("none", x.planks(0, 9, 99, 9), NONE);
        Edges.is("load 100", x.planks(0, 9, 100, 9), BAD);
        Edges.is("pace 10", x.planks(0, 9, 99, 10), BAD);
        Edges.is("to 64", x.planks(0, 64, 99, 9), BAD);
    }

    static void p20NoSquareOrAllOfTheRoad() {
        IceByEar x = new IceByEar();
        Edges.is("none by 90 on 90", x.planks(0, 63, 82, 1), 0);
        Edges.is("all by 91 on 90", x.planks(0, 63, 83, 1), 15);
        Edges.is("the only one", x.planks(5, 5, 83, 1), 1);
        Edges.is("not the only one", x.planks(5, 5, 82, 1), 0);
    }

    static void p20ThreePlanksBear180AndNoMore() {
        IceByEar x = Made.lakeOf('0');
        Edges.is("180 on water", x.planks(0, 1, 95, 9), 2);
        Edges.is("182 on water", x.planks(0, 1, 96, 9), NONE);
        x.make(0, 0, 5);
        x.make(1, 0, 4);
        Edges.is("182 on 2 and 180", x.planks(0, 0, 96, 9), 1);
        Edges.is("182 on 1 and 180", x.planks(1, 1, 96, 9), NONE);
        x.make(0, 0, 9);
        Edges.is("188 on 8 and 180", x.planks(0, 0, 99, 9), 1);
        x.make(0, 0, 8);
        Edges.is("188 on 6 and 180", x.planks(0, 0, 99, 9), NONE);
    }

    static void p20ThoseLaidAlreadyComeOff() {
        IceByEar x = Made.lakeOf('0');
        for (int planks = 0; planks <= 3; planks++) {
            x.make(3, 4, planks);
            Edges.is(planks + " laid", x.planks(3, 3, 1, 1), 1);
            Edges.is(planks + " laid, too heavy", x.planks(3, 3, 96, 9), NONE);
        }
        Edges.is("they stay", x.count(4), 3);
    }

    static void p20TheFewestHoweverLong() {
        IceByEar x = new IceByEar();
        Due.ice(x, "99999999/00000009/99999999/90000000/99999999/00000009/99999999/90000000");
        Edges.is("all the way around", x.planks(0, 56, 99, 8), 0);
        x.make(15, 0, 0);
        Edges.is("one", x.planks(0, 56, 99, 8), 1);
        x.make(24, 0, 0);
        Edges.is("two", x.planks(0, 56, 99, 8), 2);
    }

    static void p20NoneGoesAroundTheEdge() {
        IceByEar x = Made.lakeOf('0');
        x.make(7, 0, 99);
        x.make(8, 0, 99);
        Edges.is("7 to 8", x.planks(7, 8, 99, 8), 7);
        Edges.is("7 to 8, not by three each", x.planks(7, 8, 99, 9), NONE);
    }

    static void p20PlanksChangesNothing() {
        Edges.same("planks", Made.RICH.andThen(x -> x.planks(0, 63, 50, 1)), Made.RICH);
        Edges.leaves("none", Made.RICH, x -> x.planks(20, 20, 99, 9), NONE);
    }
}
