/** The edges of promises 10 to 17: sleigh, home, step, back, need, breaks, cracks, crack. */
public final class EdgeSleighTest {
    private static final int BAD = IceByEar.BAD, NOT = IceByEar.NOT, FULL = IceByEar.FULL, NONE = IceByEar.NONE;

    public static void main(String[] args) {
        Edges.run(EdgeSleighTest.class, 10, 11, 12, 13, 14, 15, 16, 17);
    }

    private static boolean areNext(int one, int other) {
        return Math.abs(one / 8 - other / 8) + Math.abs(one % 8 - other % 8) == 1;
    }

    // ---- promise 10: sleigh

    static void p10LoadIs1To99() {
        Edges.takes(1, 99, (x, v) -> x.sleigh(v, 5, 5));
    }

    static void p10PaceIs1To9() {
        Edges.takes(1, 9, (x, v) -> x.sleigh(5, v, 5));
    }

    static void p10StartIs0To99() {
        Edges.takes(0, 99, (x, v) -> x.sleigh(5, 5, v));
    }

    static void p10NumbersAre0To5() {
        IceByEar x = new IceByEar();
        for (int i = 0; i < 6; i++) {
            Edges.is("its number", x.sleigh(1, 1, 1), i);
        }
        Edges.is("the seventh", x.sleigh(1, 1, 1), FULL);
    }

    static void p10BySixASeventhChangesNothing() {
        Edges.leaves("a seventh", Made.FILLED, x -> x.sleigh(1, 1, 0), FULL);
        Edges.leaves("a seventh", Made.FILLED, x -> x.sleigh(99, 9, 99), FULL);
    }

    static void p10BadIsToldBeforeFull() {
        Edges.leaves("load 0", Made.FILLED, x -> x.sleigh(0, 1, 0), BAD);
        Edges.leaves("pace 10", Made.FILLED, x -> x.sleigh(1, 10, 0), BAD);
        Edges.leaves("start 100", Made.FILLED, x -> x.sleigh(1, 1, 100), BAD);
    }

    static void p10TheLeastAndTheMostAreAsTold() {
        IceByEar x = Made.lakeOf('0');
        x.step(0);
        x.sleigh(1, 1, 0);
        Edges.is("need of the least", x.need(0, 0), 1);
        Edges.is("its minute", x.breaks(2), 0);
        x.home();
        x.sleigh(99, 9, 99);
        Edges.is("need of the most", x.need(0, 0), 188);
        Edges.is("its minute", x.breaks(2), 99);
    }

    // ---- promise 11: home

    static void p11NoneAndSixGo() {
        IceByEar x = new IceByEar();
        Edges.is("none", x.home(), 0);
        Made.FILLED.accept(x);
        Edges.is("six", x.home(), 6);
        Edges.is("none are left", x.count(0), 0);
        Edges.is("none again", x.home(), 0);
        Edges.is("the next is 0", x.sleigh(1, 1, 1), 0);
    }

    static void p11NothingElseGoes() {
        Edges.same("home", Made.FILLED.andThen(x -> x.home()).andThen(x -> {
            for (int sleigh = 0; sleigh < 6; sleigh++) {
                x.sleigh(10 + sleigh, 1 + sleigh, 3 * sleigh);
            }
        }), Made.FILLED);
        Edges.leaves("home of none", Made.NEW, x -> x.home(), 0);
    }

    // ---- promise 12: step

    static void p12SquaresAre0To63() {
        Edges.isBadOutside(0, 63, (x, v) -> x.step(v));
        for (int square = 0; square < 64; square += 63) {
            IceByEar x = new IceByEar();
            Edges.is("square " + square, x.step(square), 1);
        }
    }

    static void p12TheFirstMayBeAnySquare() {
        for (int square = 0; square < 64; square++) {
            Edges.is("square " + square, new IceByEar().step(square), 1);
        }
    }

    static void p12OnlyThoseOfItsSidesAreNext() {
        for (int from = 0; from < 64; from++) {
            for (int to = 0; to < 64; to++) {
                IceByEar x = new IceByEar();
                x.step(from);
                Edges.is(from + " to " + to, x.step(to), areNext(from, to) ? 2 : NOT);
            }
        }
    }

    static void p12NoStepGoesAroundTheEdge() {
        int[][] around = {{7, 8}, {8, 7}, {15, 16}, {55, 56}, {0, 7}, {7, 0}, {0, 56}, {56, 0}, {63, 56}, {63, 7}};
        for (int[] pair : around) {
            Edges.leaves(pair[0] + " to " + pair[1], x -> x.step(pair[0]), x -> x.step(pair[1]), NOT);
        }
    }

    static void p12TheSameSquareIsNotNext() {
        Edges.leaves("8 again", x -> x.step(8), NOT);
    }

    static void p12WhatIsNotNextChangesNothing() {
        Edges.leaves("63", x -> x.step(63), NOT);
        Edges.leaves("17, by the corner", x -> x.step(17), NOT);
    }

    static void p12The24thIsTakenThe25thIsNot() {
        IceByEar x = new IceByEar();
        for (int i = 0; i < 24; i++) {
            Edges.is("step " + i, x.step(Made.winding(i)), i + 1);
        }
        Edges.is("the 25th", x.step(31), FULL);
        Edges.leaves("the 25th", Made.FILLED, y -> y.step(31), FULL);
    }

    static void p12NotIsToldBeforeFull() {
        Edges.leaves("not next", Made.FILLED, x -> x.step(0), NOT);
        Edges.leaves("the last again", Made.FILLED, x -> x.step(23), NOT);
    }

    static void p12BadIsToldBeforeNotAndFull() {
        Edges.leaves("square 64", Made.FILLED, x -> x.step(64), BAD);
        Edges.leaves("square -1", Made.FILLED, x -> x.step(-1), BAD);
        Edges.leaves("square 64 of no way", Made.NEW, x -> x.step(64), BAD);
    }

    static void p12AWayMayComeBackToItsSquares() {
        IceByEar x = new IceByEar();
        for (int i = 0; i < 24; i++) {
            Edges.is("to and fro", x.step(62 + i % 2), i + 1);
        }
    }

    static void p12WaterMayBeStepped() {
        IceByEar x = Made.lakeOf('0');
        Edges.is("the first", x.step(9), 1);
        Edges.is("the second", x.step(10), 2);
    }

    // ---- promise 13: back

    static void p13NumbersAre1To24() {
        Edges.isBadOutside(1, 24, (x, v) -> x.back(v));
        for (int n = 1; n <= 24; n++) {
            IceByEar x = new IceByEar();
            Made.FILLED.accept(x);
            Edges.is("back " + n, x.back(n), 24 - n);
            Edges.is("places", x.count(1), 24 - n);
        }
    }

    static void p13AWayHasNotMoreThanItHas() {
        for (int places = 1; places < 24; places++) {
            int more = places + 1;
            IceByEar x = new IceByEar();
            Made.windingWay(x, places);
            Edges.is("back " + more + " of " + places, x.back(more), NOT);
            Edges.is("places", x.count(1), places);
            Edges.is("back all", x.back(places), 0);
            Edges.is("back of none", x.back(1), NOT);
        }
    }

    static void p13WhatIsNotThereChangesNothing() {
        Edges.leaves("back 7 of 6", x -> x.back(7), NOT);
        Edges.leaves("back 24 of 6", x -> x.back(24), NOT);
        Edges.leaves("back 1 of none", Made.NEW, x -> x.back(1), NOT);
    }

    static void p13BadIsToldBeforeNot() {
        Edges.leaves("back 25 of none", Made.NEW, x -> x.back(25), BAD);
        Edges.leaves("back 0 of none", Made.NEW, x -> x.back(0), BAD);
    }

    static void p13TheLastOnesGo() {
        IceByEar x = new IceByEar();
        Due.way(x, 0, 1, 2, 3);
        Edges.is("back 2", x.back(2), 2);
        Edges.is("2 is not the last any more", x.step(10), NOT);
        Edges.is("1 is", x.step(9), 3);
        Edges.is("back all", x.back(3), 0);
        Edges.is("anywhere again", x.step(63), 1);
    }

    // ---- promise 14: need

    static void p14SleighsAreThoseThatAreThere() {
        for (int n = 0; n <= 6; n++) {
            IceByEar x = new IceByEar();
            x.step(0);
            for (int i = 0; i < n; i++) {
                x.sleigh(10, 1, 20 * i % 100);
            }
            for (int bad : new int[] {-1, n, 6, Integer.MIN_VALUE, Integer.MAX_VALUE}) {
                Edges.is("sleigh " + bad + " of " + n, x.need(bad, 0), BAD);
            }
            if (n > 0) {
                Edges.is("the first of " + n, x.need(0, 0) > 0 ? 1 : 0, 1);
                Edges.isTaken("the last of " + n, x.need(n - 1, 0));
            }
        }
    }

    static void p14PlacesAreThoseThatAreThere() {
        IceByEar x = new IceByEar();
        x.sleigh(10, 1, 0);
        for (int n = 0; n <= 24; n++) {
            for (int bad : new int[] {-1, n, 24, Integer.MIN_VALUE, Integer.MAX_VALUE}) {
                Edges.is("place " + bad + " of " + n, x.need(0, bad), BAD);
            }
            if (n > 0) {
                Edges.is("the last place of " + n, x.need(0, n - 1), 11);
                Edges.is("the first place of " + n, x.need(0, 0), 11);
            }
            x.step(n % 2);
        }
    }

    static void p14GoneSleighsAndPlacesAreBad() {
        IceByEar x = new IceByEar();
        Made.FILLED.accept(x);
        x.back(1);
        Edges.is("the place that went", x.need(0, 23), BAD);
        x.home();
        Edges.is("the sleigh that went", x.need(0, 0), BAD);
    }

    static void p14NeedAloneIsCut() {
        need(1, 1, 1);
        need(1, 9, 1);
        need(9, 1, 9);
        need(10, 1, 11);
        need(33, 7, 56);
        need(99, 9, 188);
        need(95, 9, 180);
    }

    static void p14NeedOfEachLoadByEachPace() {
        for (int pace = 1; pace <= 9; pace++) {
            IceByEar x = new IceByEar();
            x.step(0);
            for (int load = 1; load <= 99; load++) {
                x.home();
                x.sleigh(load, pace, 0);
                // What is above 10 parts of 10 is the load itself.
                Edges.is("need of " + load + " by " + pace, x.need(0, 0), load + load * pace / 10);
            }
        }
    }

    private static void need(int load, int pace, int want) {
        IceByEar x = new IceByEar();
        x.step(0);
        x.sleigh(load, pace, 0);
        Edges.is("need of " + load + " by " + pace, x.need(0, 0), want);
    }

    static void p14AWaveIsOfOneMinuteEarlierOrMore() {
        IceByEar x = new IceByEar();
        x.step(0);
        x.sleigh(99, 9, 0);
        int[] starts = {1, 2, 3, 89, 90};
        int[] waves = {89, 44, 29, 1, 0};
        for (int i = 0; i < starts.length; i++) {
            x.sleigh(10, 1, starts[i]);
            int own = 11, others = 0;
            for (int k = 1; k <= i; k++) {
                others += 10 / (10 * (starts[i] - starts[k - 1]));
            }
            Edges.is(starts[i] + " minutes later", x.need(i + 1, 0), own + waves[i] + others);
        }
        Edges.is("nobody is earlier", x.need(0, 0), 188);
    }

    static void p14EachPartIsCutByItself() {
        IceByEar x = new IceByEar();
        x.step(0);
        x.sleigh(6, 1, 0);
        x.sleigh(9, 1, 0);
        x.sleigh(1, 9, 1);
        Edges.is("1.9 and 0.6 and 0.9", x.need(2, 0), 1);
    }

    static void p14AWaveComesFromAGreaterNumberToo() {
        IceByEar x = new IceByEar();
        x.step(0);
        x.sleigh(10, 1, 5);
        x.sleigh(99, 9, 4);
        Edges.is("of the greater one, earlier", x.need(0, 0), 11 + 89);
        Edges.is("of the lesser one, later", x.need(1, 0), 188);
    }

    static void p14FiveWavesAtOnce() {
        IceByEar x = new IceByEar();
        x.step(0);
        for (int i = 0; i < 5; i++) {
            x.sleigh(99, 9, 0);
        }
        x.sleigh(99, 9, 1);
        Edges.is("the greatest need", x.need(5, 0), 188 + 5 * 89);
        Edges.is("those meet", x.need(4, 0), NOT);
    }

    static void p14OfThoseWhoMeetTheLeastNumberIsTold() {
        IceByEar x = new IceByEar();
        x.step(0);
        x.sleigh(10, 1, 7);
        x.sleigh(10, 2, 7);
        x.sleigh(10, 3, 7);
        Edges.is("the least number, without a wave of the others", x.need(0, 0), 11);
        Edges.is("the next", x.need(1, 0), NOT);
        Edges.is("the last", x.need(2, 0), NOT);
    }

    static void p14TheyMeetOnlyAtThePlaceOfThatMinute() {
        IceByEar x = new IceByEar();
        Made.windingWay(x, 24);
        x.sleigh(10, 2, 23);
        x.sleigh(10, 1, 0);
        Edges.is("place 22", x.need(1, 22), 11 + 0);
        Edges.is("place 23", x.need(1, 23), NOT);
        Edges.is("place 23 of the lesser one", x.need(0, 23), 12);
        Edges.is("place 22 of the lesser one", x.need(0, 22), 12 + 1);
    }

    static void p14BadIsToldBeforeNot() {
        IceByEar x = new IceByEar();
        x.step(0);
        x.sleigh(10, 1, 7);
        x.sleigh(10, 1, 7);
        Edges.is("place 0", x.need(1, 0), NOT);
        Edges.is("place 1", x.need(1, 1), BAD);
        Edges.is("sleigh 2", x.need(2, 0), BAD);
    }

    static void p14NeedChangesNothing() {
        Edges.leaves("need", x -> x.need(0, 0), 39 + 3);
        Edges.leaves("sleigh 4", x -> x.need(4, 0), BAD);
        Edges.leaves("place 6", x -> x.need(0, 6), BAD);
    }

    // ---- promise 15: breaks

    static void p15WhatIs0To3() {
        Edges.takes(0, 3, (x, v) -> x.breaks(v));
    }

    static void p15NobodyWithoutSleighsOrWithoutAWay() {
        IceByEar x = Made.lakeOf('0');
        noneBreaks("no sleigh, no way", x);
        x.step(0);
        noneBreaks("no sleigh", x);
        x.back(1);
        x.sleigh(99, 9, 0);
        noneBreaks("no way", x);
        x.step(0);
        Edges.is("both", x.breaks(0), 0);
    }

    private static void noneBreaks(String when, IceByEar x) {
        for (int what = 0; what <= 3; what++) {
            Edges.is(when + ", " + what, x.breaks(what), NONE);
        }
    }

    static void p15BadIsToldBeforeNone() {
        Edges.leaves("breaks(4)", Made.NEW, x -> x.breaks(4), BAD);
        Edges.leaves("breaks(-1)", Made.NEW, x -> x.breaks(-1), BAD);
        Edges.leaves("breaks(0)", Made.NEW, x -> x.breaks(0), NONE);
    }

    static void p15AsMuchAsItBearsDoesNotBreak() {
        IceByEar x = new IceByEar();
        x.step(63);
        x.sleigh(82, 1, 0);
        Edges.is("90 on 90", x.breaks(0), NONE);
        x.home();
        x.sleigh(83, 1, 0);
        Edges.is("91 on 90", x.breaks(0), 0);
        Edges.is("on which square", x.breaks(1), 63);
        x.make(63, 4, 1);
        Edges.is("91 on 150", x.breaks(0), NONE);
    }

    static void p15AWaveMayBeTheOneTooMuch() {
        IceByEar x = new IceByEar();
        x.step(0);
        x.sleigh(10, 1, 0);
        x.sleigh(81, 1, 1);
        Edges.is("89 and 1", x.breaks(0), NONE);
        x.home();
        x.sleigh(10, 1, 0);
        x.sleigh(82, 1, 1);
        Edges.is("90 and 1", x.breaks(0), 1);
        x.home();
        x.sleigh(10, 1, 0);
        x.sleigh(82, 1, 2);
        Edges.is("90 and 0.5", x.breaks(0), NONE);
    }

    static void p15ThoseWhoMeetBreakByTheGreaterNumber() {
        IceByEar x = new IceByEar();
        Due.way(x, 8, 9, 10);
        x.sleigh(1, 8, 2);
        x.sleigh(1, 7, 0);
        Edges.is("who", x.breaks(0), 1);
        Edges.is("where", x.breaks(1), 10);
        Edges.is("when", x.breaks(2), 6);
        Edges.is("how many crack", x.breaks(3), 1);
        x.back(1);
        noneBreaks("a place earlier", x);
    }

    static void p15OfOneMinuteTheLeastNumber() {
        IceByEar x = Made.lakeOf('0');
        x.step(0);
        for (int i = 0; i < 6; i++) {
            x.sleigh(1, 1, 5);
        }
        Edges.is("all break", x.breaks(0), 0);
        x.make(0, 0, 30);
        Edges.is("all but the least number meet", x.breaks(0), 1);
    }

    static void p15AnEarlierMinuteOfAGreaterNumber() {
        IceByEar x = Made.lakeOf('0');
        x.step(0);
        x.sleigh(1, 1, 6);
        x.sleigh(1, 1, 5);
        Edges.is("who", x.breaks(0), 1);
        Edges.is("when", x.breaks(2), 5);
    }

    static void p15MinutesGoBeforePlaces() {
        IceByEar x = new IceByEar();
        Made.windingWay(x, 24);
        x.make(23, 0, 0);
        x.make(0, 4, 3);
        x.sleigh(1, 9, 0);
        x.sleigh(99, 9, 23);
        Edges.is("place 23 in minute 23 by the lesser number", x.breaks(0), 0);
        Edges.is("its square", x.breaks(1), 16 + 7);
        x.home();
        x.sleigh(1, 9, 0);
        x.sleigh(99, 9, 21);
        Edges.is("place 1 in minute 22 by the greater number", x.breaks(0), 1);
        Edges.is("its square", x.breaks(1), 1);
        Edges.is("its minute", x.breaks(2), 22);
    }

    static void p15TheLastMinuteIs306() {
        IceByEar x = new IceByEar();
        Made.windingWay(x, 24);
        x.sleigh(1, 1, 99);
        noneBreaks("all bear it", x);
        x.make(23, 0, 0);
        Edges.is("who", x.breaks(0), 0);
        Edges.is("where", x.breaks(1), 23);
        Edges.is("when", x.breaks(2), 306);
        x.back(1);
        noneBreaks("without the 24th place", x);
    }

    static void p15TheFirstMinuteIs0() {
        IceByEar x = Made.lakeOf('0');
        x.step(0);
        x.sleigh(1, 1, 0);
        Edges.is("who", x.breaks(0), 0);
        Edges.is("where", x.breaks(1), 0);
        Edges.is("when", x.breaks(2), 0);
        Edges.is("how many crack", x.breaks(3), 64);
    }

    static void p15TheMinuteOfEachPlaceByEachPace() {
        for (int pace = 1; pace <= 9; pace++) {
            int start = 11 * pace - 11;
            IceByEar x = new IceByEar();
            Made.windingWay(x, 24);
            x.sleigh(1, pace, start);
            for (int place = 0; place < 24; place++) {
                x.make(Made.winding(place), 0, 0);
                Edges.is("place " + place + " by " + pace, x.breaks(2), start + place * (10 - pace));
                x.make(Made.winding(place), 0, 30);
            }
        }
    }

    static void p15OneTo64SquaresCrack() {
        IceByEar x = new IceByEar();
        x.step(27);
        x.sleigh(99, 9, 0);
        Edges.is("alone", x.breaks(3), 1);
        x.set(0, 31);
        Edges.is("all", x.breaks(3), 64);
        Edges.is("none is water by that", x.count(3), 0);
    }

    static void p15BreaksChangesNothing() {
        for (int what = 0; what <= 3; what++) {
            int asked = what;
            Edges.same("breaks(" + what + ")", Made.RICH.andThen(x -> x.breaks(asked)), Made.RICH);
        }
    }

    // ---- promise 16: cracks

    static void p16SquaresAre0To63() {
        Edges.takes(0, 63, (x, v) -> x.cracks(v));
    }

    static void p16ASquareIsOneBit() {
        IceByEar x = new IceByEar();
        for (int square = 0; square < 64; square++) {
            Edges.is("cracks(" + square + ")", x.cracks(square), 1L << square);
        }
    }

    static void p16TheFirstCracksWhateverItsThickness() {
        IceByEar x = new IceByEar();
        for (int thickness : new int[] {0, 19, 20, 99}) {
            x.make(20, 0, thickness);
            Edges.is("of " + thickness, x.cracks(20), 1L << 20);
        }
    }

    static void p16BelowTheCrackAndNoMore() {
        IceByEar x = new IceByEar();
        for (int crack : new int[] {1, 20, 50, 99}) {
            x.set(0, crack);
            Made.lake(x, '9');
            x.make(1, 0, crack - 1);
            x.make(8, 0, crack);
            for (int square : new int[] {2, 9, 16}) {
                x.make(square, 0, 99);
            }
            Edges.is("below " + crack, x.cracks(0), 3L);
        }
    }

    static void p16CracksRunByFourSidesOnly() {
        IceByEar x = Made.lakeOf('9');
        for (int square : new int[] {18, 20, 34, 36}) {
            x.make(square, 0, 0);
        }
        Edges.is("by no corner", x.cracks(27), 1L << 27);
        for (int square : new int[] {19, 26, 28, 35}) {
            x.make(square, 0, 0);
        }
        long around = 0x1C1C1C0000L;
        Edges.is("by all sides", x.cracks(27), around);
    }

    static void p16CracksDoNotRunAroundTheEdge() {
        for (int row = 0; row < 7; row++) {
            IceByEar x = new IceByEar();
            int last = 8 * row + 7;
            x.make(last, 0, 0);
            x.make(last + 1, 0, 0);
            Edges.is("from " + last, x.cracks(last), 1L << last);
            Edges.is("from " + (last + 1), x.cracks(last + 1), 1L << last + 1);
        }
        IceByEar x = new IceByEar();
        for (int corner : new int[] {0, 7, 56, 63}) {
            x.make(corner, 0, 0);
        }
        for (int corner : new int[] {0, 7, 56, 63}) {
            Edges.is("from " + corner, x.cracks(corner), 1L << corner);
        }
    }

    static void p16CracksRunOnAndOn() {
        IceByEar x = new IceByEar();
        Due.ice(x, "11111111/99999991/11111111/19999999/11111111/99999991/11111111/19999999");
        long want = 0x01FF80FF01FF80FFL;
        Edges.is("from one end", x.cracks(0), want);
        Edges.is("from the other end", x.cracks(56), want);
        Edges.is("from the thick one between", x.cracks(9), want | 1L << 9);
    }

    static void p16AllSquaresAreAllBits() {
        IceByEar x = Made.lakeOf('0');
        Edges.is("from 0", x.cracks(0), -1L);
        Edges.is("from 63", x.cracks(63), -1L);
    }

    static void p16CracksChangesNothing() {
        Edges.same("cracks(20)", Made.RICH.andThen(x -> x.cracks(20)), Made.RICH);
        Edges.leaves("cracks(64)", Made.FILLED, x -> x.cracks(64), BAD);
    }

    // ---- promise 17: crack

    static void p17SquaresAre0To63() {
        Edges.takes(0, 63, (x, v) -> x.crack(v));
    }

    static void p17OneTo64SquaresCrack() {
        IceByEar x = new IceByEar();
        Edges.is("one", x.crack(63), 1);
        Edges.is("its thickness", x.told(63, 0), 0);
        Edges.is("one is water", x.count(3), 1);
        x.set(0, 31);
        Edges.is("all", x.crack(0), 64);
        Edges.is("all are water", x.count(3), 64);
        Edges.is("all again", x.crack(0), 64);
    }

    static void p17BelowTheCrackAndNoMore() {
        IceByEar x = new IceByEar();
        x.make(1, 0, 19);
        x.make(8, 0, 20);
        Edges.is("two", x.crack(0), 2);
        Edges.is("the first", x.told(0, 0), 0);
        Edges.is("19", x.told(1, 0), 0);
        Edges.is("20", x.told(8, 0), 20);
    }

    static void p17OnlyTheThicknessGoes() {
        for (int from : new int[] {0, 9, 63}) {
            IceByEar x = Made.lakeOf('1');
            for (int square : new int[] {0, 9, 62, 63}) {
                for (int what = 1; what <= 4; what++) {
                    x.make(square, what, 1);
                }
            }
            Edges.is("all", x.crack(from), 64);
            for (int square : new int[] {0, 1, 9, 62, 63}) {
                Edges.is("thickness", x.told(square, 0), 0);
                for (int what = 1; what <= 4; what++) {
                    Edges.is("told " + what, x.told(square, what), square == 1 ? 0 : 1);
                }
            }
        }
    }

    static void p17NothingElseChanges() {
        Edges.same("crack, made as before", Made.FILLED.andThen(x -> {
            x.crack(63);
            x.make(63, 0, 30);
        }), Made.FILLED);
    }
}
