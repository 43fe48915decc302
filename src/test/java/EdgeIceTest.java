/** The edges of promises 1 to 5 and 9: a new object, make, told, days, set, count. */
public final class EdgeIceTest {
    private static final int BAD = IceByEar.BAD, NONE = IceByEar.NONE;
    private static final int[] TRAIT_MOST = {99, 4, 9, 1, 3};

    public static void main(String[] args) {
        Edges.run(EdgeIceTest.class, 1, 2, 3, 4, 5, 9);
    }

    // ---- promise 1: a new object

    static void p01NewIceIs30OnAll64Squares() {
        IceByEar x = new IceByEar();
        for (int square = 0; square < 64; square++) {
            Edges.is("thickness of " + square, x.told(square, 0), 30);
        }
    }

    static void p01NewIceIsGreyWithoutSnowSpringPlanks() {
        IceByEar x = new IceByEar();
        for (int square = 0; square < 64; square++) {
            for (int what = 1; what <= 4; what++) {
                Edges.is("told(" + square + ", " + what + ")", x.told(square, what), 0);
            }
        }
    }

    static void p01NobodyIsOnIt() {
        IceByEar x = new IceByEar();
        Edges.is("sleighs", x.count(0), 0);
        Edges.is("places", x.count(1), 0);
        Edges.is("heard", x.count(2), 0);
    }

    static void p01TheCrackIs20AtFirst() {
        Edges.is("set", new IceByEar().set(0, 5), 20);
        IceByEar x = new IceByEar();
        x.make(1, 0, 20);
        Edges.is("20 does not crack", x.cracks(0), 1L);
        x.make(1, 0, 19);
        Edges.is("19 cracks", x.cracks(0), 3L);
    }

    static void p01SteepIs10AtFirst() {
        Edges.is("set", new IceByEar().set(1, 5), 10);
        IceByEar x = new IceByEar();
        x.hear(0, 0, 180);
        Edges.is("50 less 10", x.span(15, 1, 0), 40);
        Edges.is("50 and 10", x.span(15, 1, 1), 60);
    }

    static void p01SlipsAre0AtFirst() {
        for (int hearer = 0; hearer < 4; hearer++) {
            Edges.is("slip of " + hearer, new IceByEar().slip(hearer, 9), 0);
        }
    }

    static void p01SheetsHoldNothingAtFirst() {
        for (int sheet = 0; sheet < 4; sheet++) {
            Edges.is("sheet " + sheet, new IceByEar().drop(sheet), IceByEar.NULL);
        }
    }

    static void p01TheTapeIsEmptyAtFirst() {
        Edges.is("one byte", new IceByEar().type('5', 1), 1);
        Edges.is("as ice", new IceByEar().ice(), -20);
        Edges.is("as sleighs", new IceByEar().sleighs(), -20);
    }

    static void p01ThereIsNoImageAtFirst() {
        Edges.is("restore", new IceByEar().restore(), NONE);
    }

    static void p01ObjectsShareNothing() {
        Edges.same("a new one beside a changed one", x -> Made.RICH.accept(new IceByEar()), Made.NEW);
        Edges.same("a new one beside a filled one", x -> Made.FILLED.accept(new IceByEar()), Made.NEW);
    }

    static void p01The512thCallIsAnswered() {
        IceByEar x = new IceByEar();
        for (int call = 1; call < 512; call++) {
            x.make(call % 64, 0, call % 100);
        }
        Edges.is("the 512th call", x.told(511 % 64, 0), 511 % 100);
    }

    // ---- promise 2: make

    static void p02SquaresAre0To63() {
        Edges.takes(0, 63, (x, v) -> x.make(v, 0, 1));
    }

    static void p02WhatIs0To4() {
        Edges.takes(0, 4, (x, v) -> x.make(7, v, 1));
    }

    static void p02ThicknessIs0To99() {
        Edges.takes(0, 99, (x, v) -> x.make(7, 0, v));
    }

    static void p02KindIs0To4() {
        Edges.takes(0, 4, (x, v) -> x.make(7, 1, v));
    }

    static void p02SnowIs0To9() {
        Edges.takes(0, 9, (x, v) -> x.make(7, 2, v));
    }

    static void p02ASpringIs0Or1() {
        Edges.takes(0, 1, (x, v) -> x.make(7, 3, v));
    }

    static void p02PlanksAre0To3() {
        Edges.takes(0, 3, (x, v) -> x.make(7, 4, v));
    }

    static void p02LeastAndMostBecomeSoOnTheFirstAndTheLastSquare() {
        for (int square = 0; square < 64; square += 63) {
            for (int what = 0; what <= 4; what++) {
                IceByEar x = new IceByEar();
                int most = TRAIT_MOST[what];
                Edges.is("what it was at first", x.make(square, what, most), what == 0 ? 30 : 0);
                Edges.is("the most", x.told(square, what), most);
                Edges.is("what it was then", x.make(square, what, 0), most);
                Edges.is("the least", x.told(square, what), 0);
                Edges.is("what it was last", x.make(square, what, 1), 0);
            }
        }
    }

    static void p02WhatStaysAsItIsChangesNothing() {
        Edges.leaves("make of 11 as 11", x -> x.make(0, 0, 11), 11);
        Edges.leaves("make of 3 planks as 3", x -> x.make(62, 4, 3), 3);
    }

    static void p02OtherSquaresAndTheRestOfItStay() {
        for (int what = 0; what <= 4; what++) {
            IceByEar x = new IceByEar();
            x.make(27, what, 1);
            for (int square = 0; square < 64; square++) {
                for (int other = 0; other <= 4; other++) {
                    int first = other == 0 ? 30 : 0;
                    int want = square == 27 && other == what ? 1 : first;
                    Edges.is("told(" + square + ", " + other + ")", x.told(square, other), want);
                }
            }
        }
    }

    static void p02ThicknessMadeFrom0KeepsTheKind() {
        IceByEar x = new IceByEar();
        x.make(5, 1, 3);
        x.make(5, 0, 0);
        x.make(5, 0, 1);
        Edges.is("kind", x.told(5, 1), 3);
    }

    // ---- promise 3: told

    static void p03SquaresAre0To63() {
        Edges.takes(0, 63, (x, v) -> x.told(v, 0));
    }

    static void p03WhatIs0To6() {
        Edges.takes(0, 6, (x, v) -> x.told(7, v));
    }

    static void p03IceOf0HasNoPitchIceOf1Has() {
        IceByEar x = new IceByEar();
        for (int kind = 0; kind <= 4; kind++) {
            x.make(9, 1, kind);
            x.make(9, 0, 0);
            Edges.leaves("pitch of none", y -> y.told(20, 6), NONE);
            Edges.is("pitch of 0", x.told(9, 6), NONE);
            x.make(9, 0, 1);
            Edges.is("pitch of 1", x.told(9, 6), 9000 + 7 * kind);
            x.make(9, 0, 99);
            Edges.is("pitch of 99", x.told(9, 6), 90 + 7 * kind);
        }
    }

    static void p03ThePitchIsCut() {
        IceByEar x = new IceByEar();
        int[] thickness = {7, 11, 98, 64, 67};
        int[] pitch = {1285, 818, 91, 140, 134};
        for (int i = 0; i < thickness.length; i++) {
            x.make(0, 0, thickness[i]);
            Edges.is("pitch of " + thickness[i], x.told(0, 6), pitch[i]);
        }
    }

    static void p03BearsNothingBy0AndMostBy99() {
        IceByEar x = new IceByEar();
        int[] bears = {980, 612, 367, 245, 857};
        for (int kind = 0; kind <= 4; kind++) {
            x.make(9, 1, kind);
            x.make(9, 0, 0);
            Edges.is("0 bears", x.told(9, 5), 0);
            x.make(9, 0, 99);
            Edges.is("99 bears", x.told(9, 5), bears[kind]);
        }
    }

    static void p03WhatItBearsIsCut() {
        IceByEar x = new IceByEar();
        int[] below = {3, 3, 5, 6, 3};
        for (int kind = 0; kind <= 4; kind++) {
            x.make(9, 1, kind);
            x.make(9, 0, below[kind]);
            Edges.is("the last that bears 0", x.told(9, 5), 0);
            x.make(9, 0, below[kind] + 1);
            Edges.is("the first that bears 1", x.told(9, 5), 1);
        }
    }

    static void p03EachThicknessOfEachKind() {
        int[] parts = {8, 5, 3, 2, 7};
        for (int kind = 0; kind <= 4; kind++) {
            IceByEar x = new IceByEar();
            x.make(9, 1, kind);
            for (int thickness = 1; thickness <= 99; thickness++) {
                x.make(9, 0, thickness);
                String what = thickness + " of kind " + kind;
                Edges.is(what + " bears", x.told(9, 5), thickness * thickness * parts[kind] / 80);
                Edges.is(what + " sings", x.told(9, 6), 9000 / thickness + 7 * kind);
            }
        }
    }

    static void p03EachOf0To3PlanksBears60More() {
        IceByEar x = new IceByEar();
        for (int planks = 0; planks <= 3; planks++) {
            x.make(9, 4, planks);
            x.make(9, 0, 30);
            Edges.is("on ice", x.told(9, 5), 90 + 60 * planks);
            x.make(9, 0, 0);
            Edges.is("on water", x.told(9, 5), 60 * planks);
            Edges.is("planks do not sing", x.told(9, 6), NONE);
        }
    }

    static void p03ToldChangesNothing() {
        for (int what = 0; what <= 6; what++) {
            int asked = what;
            Edges.same("told of " + what, Made.RICH.andThen(x -> x.told(0, asked)), Made.RICH);
        }
    }

    // ---- promise 4: days

    static void p04ColdIs0To9() {
        Edges.takes(0, 9, (x, v) -> x.days(v, 1));
    }

    static void p04DaysAre1To30() {
        Edges.takes(1, 30, (x, v) -> x.days(1, v));
    }

    static void p04OneDayAnd30Days() {
        Edges.is("one day", new IceByEar().days(2, 1), 64 * 32);
        Edges.is("30 days", new IceByEar().days(2, 30), 64 * 90);
    }

    static void p04ADayOfCold0WithoutSpringsLeavesAll() {
        Edges.leaves("a day of 0", Made.FILLED, x -> x.days(0, 1), 64 * 30);
        Edges.leaves("30 days of 0", Made.FILLED, x -> x.days(0, 30), 64 * 30);
    }

    static void p04ThicknessIs99AtMost() {
        day(90, 0, 9, 0, 99);
        day(91, 0, 9, 0, 99);
        day(89, 0, 9, 0, 98);
        day(99, 0, 9, 0, 99);
        day(99, 0, 0, 0, 99);
    }

    static void p04ThicknessIs0AtLeast() {
        day(3, 0, 0, 1, 0);
        day(2, 0, 0, 1, 0);
        day(4, 0, 0, 1, 1);
        day(0, 0, 0, 1, 0);
        day(0, 0, 0, 0, 0);
    }

    static void p04TheBoundsCountBehindColdAndSpringBoth() {
        day(99, 0, 9, 1, 99);
        day(99, 0, 3, 1, 99);
        day(99, 0, 2, 1, 98);
        day(95, 0, 6, 1, 98);
        day(0, 0, 3, 1, 0);
        day(0, 0, 4, 1, 1);
        day(1, 0, 2, 1, 0);
        day(1, 0, 3, 1, 1);
    }

    static void p04ColdUnderSnowIsCut() {
        day(30, 0, 9, 0, 39);
        day(30, 9, 9, 0, 30);
        day(30, 1, 9, 0, 38);
        day(30, 9, 1, 0, 30);
        day(30, 5, 1, 0, 30);
        day(30, 5, 2, 0, 31);
        day(30, 8, 5, 0, 31);
        day(30, 8, 4, 0, 30);
    }

    static void p04EachColdUnderEachSnowOnASpringOrNone() {
        for (int cold = 0; cold <= 9; cold++) {
            for (int snow = 0; snow <= 9; snow++) {
                IceByEar x = new IceByEar();
                for (int square = 0; square < 64; square++) {
                    x.make(square, 0, thicknessOf(square));
                    x.make(square, 2, snow);
                    x.make(square, 3, square % 2);
                }
                x.days(cold, 1);
                for (int square = 0; square < 64; square++) {
                    int grown = thicknessOf(square) + cold * (10 - snow) / 10 - (square % 2 == 1 ? 3 : 0);
                    String day = thicknessOf(square) + " under " + snow + " by " + cold + " on " + square;
                    Edges.is(day, x.told(square, 0), grown < 0 ? 0 : grown > 99 ? 99 : grown);
                }
            }
        }
    }

    /** Thick and thin ice on squares with a spring and on others. */
    private static int thicknessOf(int square) {
        return square < 16 ? square / 2 : 99 - (square - 16) / 2;
    }

    private static void day(int thickness, int snow, int cold, int spring, int want) {
        IceByEar x = Made.lakeOf('0');
        x.make(63, 0, thickness);
        x.make(63, 2, snow);
        x.make(63, 3, spring);
        String day = thickness + " under " + snow + " by " + cold + (spring == 1 ? " on a spring" : "");
        x.days(cold, 1);
        Edges.is(day, x.told(63, 0), want);
        Edges.is(day + ": snow stays", x.told(63, 2), snow);
        Edges.is(day + ": a spring stays", x.told(63, 3), spring);
    }

    static void p04EachDayIsCutByItself() {
        IceByEar x = new IceByEar();
        x.make(0, 2, 9);
        x.days(9, 30);
        Edges.is("30 days of less than 1", x.told(0, 0), 30);
        Edges.is("the others", x.told(1, 0), 99);
    }

    static void p04EachDayIsBoundByItself() {
        IceByEar x = new IceByEar();
        x.make(0, 3, 1);
        x.days(0, 30);
        Edges.is("a spring takes no more than there is", x.told(0, 0), 0);
        Edges.is("then it grows by 6", x.days(9, 1), 63 * 39 + 6);
    }

    static void p04IceThatWas0AndIsNotAnyMoreIsGrey() {
        kindBehindADay(0, 1, 0, 1, 0);
        kindBehindADay(0, 4, 1, 1, 0);
    }

    static void p04IceThatStays0KeepsItsKind() {
        kindBehindADay(0, 0, 0, 0, 2);
        kindBehindADay(0, 3, 1, 0, 2);
    }

    static void p04IceThatWasNot0KeepsItsKind() {
        kindBehindADay(1, 1, 0, 2, 2);
        kindBehindADay(3, 0, 1, 0, 2);
        kindBehindADay(99, 9, 0, 99, 2);
    }

    private static void kindBehindADay(int thickness, int cold, int spring, int then, int kind) {
        IceByEar x = new IceByEar();
        x.make(8, 0, thickness);
        x.make(8, 1, 2);
        x.make(8, 3, spring);
        x.days(cold, 1);
        Edges.is("thickness from " + thickness, x.told(8, 0), then);
        Edges.is("kind from " + thickness, x.told(8, 1), kind);
    }

    static void p04AllThicknessTogetherIs0To6336() {
        Edges.is("a lake of water", Made.lakeOf('0').days(0, 1), 0);
        Edges.is("a lake of 99", Made.lakeOf('9').days(9, 1), 6336);
    }

    static void p04OneRefusedForBothNumbers() {
        Edges.leaves("days(10, 31)", x -> x.days(10, 31), BAD);
        Edges.leaves("days(-1, 0)", x -> x.days(-1, 0), BAD);
    }

    // ---- promise 5: set

    static void p05WhatIs0Or1() {
        Edges.takes(0, 1, (x, v) -> x.set(v, 7));
    }

    static void p05TheCrackIs0To99() {
        Edges.takes(0, 99, (x, v) -> x.set(0, v));
    }

    static void p05SteepIs0To99() {
        Edges.takes(0, 99, (x, v) -> x.set(1, v));
    }

    static void p05AnswersWhatItWas() {
        IceByEar x = new IceByEar();
        for (int what = 0; what <= 1; what++) {
            Edges.is("at first", x.set(what, 99), what == 0 ? 20 : 10);
            Edges.is("then", x.set(what, 0), 99);
            Edges.is("last", x.set(what, 50), 0);
        }
        Edges.is("the one stays by the other", x.set(0, 1), 50);
    }

    static void p05TheCrackOf0CracksNothingMore() {
        IceByEar x = Made.lakeOf('0');
        x.set(0, 0);
        Edges.is("water next to it", x.cracks(9), 1L << 9);
        x.set(0, 1);
        Edges.is("below 1", x.cracks(9), -1L);
    }

    static void p05TheCrackOf99Cracks98AndNot99() {
        IceByEar x = new IceByEar();
        x.set(0, 99);
        for (int side : new int[] {1, 8, 10, 17}) {
            x.make(side, 0, 99);
        }
        Edges.is("99 does not crack", x.cracks(9), 1L << 9);
        x.make(10, 0, 98);
        x.make(11, 0, 99);
        x.make(2, 0, 99);
        x.make(18, 0, 99);
        Edges.is("98 cracks", x.cracks(9), 1L << 9 | 1L << 10);
    }

    static void p05SteepOf0MakesAllSpansOne() {
        IceByEar x = new IceByEar();
        x.set(1, 0);
        x.hear(0, 0, 180);
        Edges.is("least", x.span(15, 63, 0), 50);
        Edges.is("greatest", x.span(15, 63, 1), 50);
    }

    static void p05SteepOf99NarrowsNothing() {
        IceByEar x = new IceByEar();
        x.set(1, 99);
        x.hear(0, 0, 9000);
        x.hear(0, 63, 90);
        Edges.is("next to 1", x.span(15, 1, 1), 99);
        Edges.is("next to 99", x.span(15, 62, 0), 1);
    }

    // ---- promise 9: count

    static void p09WhatIs0To4() {
        Edges.takes(0, 4, (x, v) -> x.count(v));
    }

    static void p09SleighsAre0To6() {
        IceByEar x = new IceByEar();
        for (int n = 0; n <= 6; n++) {
            Edges.is("sleighs", x.count(0), n);
            x.sleigh(1, 1, 1);
        }
        Edges.is("no seventh", x.count(0), 6);
    }

    static void p09PlacesAre0To24() {
        IceByEar x = new IceByEar();
        for (int n = 0; n <= 24; n++) {
            Edges.is("places", x.count(1), n);
            x.step(n % 2);
        }
        Edges.is("no 25th", x.count(1), 24);
    }

    static void p09HeardAre0To16() {
        IceByEar x = new IceByEar();
        for (int n = 0; n <= 16; n++) {
            Edges.is("heard", x.count(2), n);
            x.hear(0, 0, 90);
        }
        Edges.is("no 17th", x.count(2), 16);
    }

    static void p09SquaresOfThickness0Are0To64() {
        IceByEar x = new IceByEar();
        for (int square = 0; square < 64; square++) {
            x.make(square, 0, 1);
            Edges.is("1 is not 0", x.count(3), square);
            x.make(square, 0, 0);
            Edges.is("water", x.count(3), square + 1);
        }
    }

    static void p09PlanksAre0To192() {
        IceByEar x = new IceByEar();
        for (int square = 0; square < 64; square++) {
            x.make(square, 4, 3);
            Edges.is("planks", x.count(4), 3 * square + 3);
        }
    }

    static void p09CountChangesNothing() {
        for (int what = 0; what <= 4; what++) {
            int asked = what;
            Edges.same("count of " + what, Made.RICH.andThen(x -> x.count(asked)), Made.RICH);
        }
    }
}
