/** The edges of promises 21 to 27: slip, hear, deaf, span, safe, drum, liars. */
public final class EdgeHearerTest {
    private static final int BAD = IceByEar.BAD, NOT = IceByEar.NOT, FULL = IceByEar.FULL, NONE = IceByEar.NONE;

    public static void main(String[] args) {
        Edges.run(EdgeHearerTest.class, 21, 22, 23, 24, 25, 26, 27);
    }

    // ---- promise 21: slip

    static void p21HearersAre0To3() {
        Edges.takes(0, 3, (x, v) -> x.slip(v, 7));
    }

    static void p21SlipIs0To99() {
        Edges.takes(0, 99, (x, v) -> x.slip(2, v));
    }

    static void p21AnswersWhatItWas() {
        IceByEar x = new IceByEar();
        for (int hearer = 0; hearer < 4; hearer++) {
            Edges.is("at first", x.slip(hearer, 99), 0);
            Edges.is("the most", x.slip(hearer, 0), 99);
            Edges.is("the least", x.slip(hearer, 10 + hearer), 0);
        }
        for (int hearer = 0; hearer < 4; hearer++) {
            Edges.is("each has its own", x.slip(hearer, 0), 10 + hearer);
        }
    }

    static void p21ASlipCountsForWhatWasHeardBefore() {
        IceByEar x = alone();
        x.hear(0, 0, 305);
        Edges.is("by 0", x.span(15, 0, 0), NONE);
        x.slip(0, 5);
        span(x, 0, 29, 30);
        x.slip(0, 0);
        Edges.is("by 0 again", x.span(15, 0, 0), NONE);
    }

    /** By STEEP 99 no square narrows another. */
    private static IceByEar alone() {
        IceByEar x = new IceByEar();
        x.set(1, 99);
        return x;
    }

    private static void span(IceByEar x, int square, int least, int greatest) {
        Edges.is("least of " + square, x.span(15, square, 0), least);
        Edges.is("greatest of " + square, x.span(15, square, 1), greatest);
    }

    // ---- promise 22: hear

    static void p22HearersAre0To3() {
        Edges.takes(0, 3, (x, v) -> x.hear(v, 5, 300));
    }

    static void p22SquaresAre0To63() {
        Edges.takes(0, 63, (x, v) -> x.hear(1, v, 300));
    }

    static void p22PitchIs90To9999() {
        Edges.takes(90, 9999, (x, v) -> x.hear(1, 5, v));
    }

    static void p22The16thIsTakenThe17thIsNot() {
        IceByEar x = new IceByEar();
        for (int i = 1; i <= 16; i++) {
            Edges.is("heard", x.hear(i % 4, i, 300), i);
        }
        Edges.is("the 17th", x.hear(0, 0, 300), FULL);
        Edges.is("16 of them", x.count(2), 16);
        Edges.leaves("the 17th", Made.FILLED, y -> y.hear(0, 0, 9000), FULL);
    }

    static void p22The16thCountsThe17thDoesNot() {
        IceByEar x = alone();
        for (int i = 0; i < 15; i++) {
            x.hear(0, i, 300);
        }
        x.hear(0, 15, 180);
        x.hear(0, 16, 180);
        span(x, 15, 50, 50);
        span(x, 16, 1, 99);
    }

    static void p22BadIsToldBeforeFull() {
        Edges.leaves("hearer 4", Made.FILLED, x -> x.hear(4, 0, 300), BAD);
        Edges.leaves("square 64", Made.FILLED, x -> x.hear(0, 64, 300), BAD);
        Edges.leaves("pitch 89", Made.FILLED, x -> x.hear(0, 0, 89), BAD);
        Edges.leaves("pitch 10000", Made.FILLED, x -> x.hear(0, 0, 10000), BAD);
    }

    static void p22WhatCantBeIsHeardToo() {
        IceByEar x = new IceByEar();
        Edges.is("a pitch of no ice", x.hear(0, 0, 9999), 1);
        x.make(1, 0, 0);
        Edges.is("a pitch of water", x.hear(0, 1, 300), 2);
    }

    // ---- promise 23: deaf

    static void p23NothingAnd16WereHeard() {
        IceByEar x = new IceByEar();
        Edges.is("nothing", x.deaf(), 0);
        Made.FILLED.accept(x);
        Edges.is("16", x.deaf(), 16);
        Edges.is("nothing is left", x.count(2), 0);
        Edges.is("nothing again", x.deaf(), 0);
        Edges.is("the next is the first", x.hear(0, 0, 300), 1);
    }

    static void p23NothingElseGoes() {
        Edges.same("deaf", Made.FILLED.andThen(x -> x.deaf()).andThen(x -> {
            for (int i = 0; i < 16; i++) {
                x.hear(i % 4, 4 * i, 300 + i % 2);
            }
        }), Made.FILLED);
        Edges.leaves("deaf of nothing", Made.NEW, x -> x.deaf(), 0);
    }

    static void p23SpansAreWideAgain() {
        IceByEar x = new IceByEar();
        x.hear(0, 0, 9999);
        Edges.is("none", x.span(15, 0, 0), NONE);
        x.deaf();
        span(x, 0, 1, 99);
    }

    // ---- promise 24: span

    static void p24SetsAre0To15() {
        Edges.takes(0, 15, (x, v) -> x.span(v, 5, 0));
    }

    static void p24SquaresAre0To63() {
        Edges.takes(0, 63, (x, v) -> x.span(15, v, 0));
    }

    static void p24WhatIs0Or1() {
        Edges.takes(0, 1, (x, v) -> x.span(15, 5, v));
    }

    static void p24BadIsToldBeforeNone() {
        IceByEar x = new IceByEar();
        x.hear(0, 0, 9999);
        Edges.is("none", x.span(15, 0, 0), NONE);
        Edges.is("set 16", x.span(16, 0, 0), BAD);
        Edges.is("set -1", x.span(-1, 0, 0), BAD);
        Edges.is("square 64", x.span(15, 64, 0), BAD);
        Edges.is("what 2", x.span(15, 0, 2), BAD);
    }

    static void p24WhereNothingWasHeardItIs1To99() {
        IceByEar x = new IceByEar();
        for (int square = 0; square < 64; square++) {
            span(x, square, 1, 99);
        }
    }

    static void p24OnlyTheSetsHearersCount() {
        IceByEar x = alone();
        for (int hearer = 0; hearer < 4; hearer++) {
            x.hear(hearer, hearer, 180);
        }
        for (int set = 0; set < 16; set++) {
            for (int hearer = 0; hearer < 4; hearer++) {
                boolean is = (set >> hearer & 1) == 1;
                Edges.is("least by " + set, x.span(set, hearer, 0), is ? 50 : 1);
                Edges.is("greatest by " + set, x.span(set, hearer, 1), is ? 50 : 99);
            }
        }
    }

    static void p24TheEmptySetHasHeardNothing() {
        IceByEar x = new IceByEar();
        x.hear(0, 0, 9999);
        Edges.is("least", x.span(0, 0, 0), 1);
        Edges.is("greatest", x.span(0, 0, 1), 99);
    }

    static void p24JustTheSlipAwayFitsOneMoreDoesNot() {
        fits(305, 5, 0, 29, 30);
        fits(305, 4, 0, NONE, NONE);
        fits(310, 10, 0, 29, 30);
        fits(310, 9, 0, 29, 29);
        fits(300, 0, 0, 30, 30);
        fits(301, 0, 0, NONE, NONE);
        fits(301, 1, 0, 30, 30);
        fits(299, 1, 0, 30, 30);
    }

    private static void fits(int pitch, int slip, int kind, int least, int greatest) {
        IceByEar x = alone();
        x.make(9, 1, kind);
        x.slip(3, slip);
        x.hear(3, 9, pitch);
        String what = pitch + " by " + slip + " on kind " + kind;
        Edges.is("least of " + what, x.span(15, 9, 0), least);
        Edges.is("greatest of " + what, x.span(15, 9, 1), greatest);
    }

    static void p24TheThinnestThatFitsIs1() {
        fits(9000, 0, 0, 1, 1);
        fits(9001, 0, 0, NONE, NONE);
        fits(8999, 0, 0, NONE, NONE);
        fits(9099, 99, 0, 1, 1);
        fits(9100, 99, 0, NONE, NONE);
        fits(8901, 99, 0, 1, 1);
        fits(8900, 99, 0, NONE, NONE);
        fits(9028, 0, 4, 1, 1);
        fits(9127, 99, 4, 1, 1);
        fits(9128, 99, 4, NONE, NONE);
        fits(9999, 99, 4, NONE, NONE);
    }

    static void p24TheThickestThatFitsIs99() {
        fits(90, 0, 0, 99, 99);
        fits(91, 0, 0, 98, 98);
        fits(90, 1, 0, 98, 99);
        fits(90, 27, 4, NONE, NONE);
        fits(90, 28, 4, 99, 99);
        fits(90, 29, 4, 98, 99);
        fits(90, 6, 1, NONE, NONE);
        fits(90, 7, 1, 99, 99);
        fits(118, 0, 4, 99, 99);
        fits(117, 0, 4, NONE, NONE);
    }

    static void p24TheWidestByOneHearing() {
        fits(90, 99, 0, 48, 99);
        fits(99, 99, 0, 46, 99);
        fits(189, 99, 0, 32, 99);
        fits(190, 99, 0, 32, 98);
    }

    static void p24ItIsTheKindThatIsThereNow() {
        IceByEar x = alone();
        x.hear(0, 9, 300);
        int[] least = {30, NONE, NONE, NONE, 33};
        for (int kind = 0; kind <= 4; kind++) {
            x.make(9, 1, kind);
            Edges.is("kind " + kind, x.span(15, 9, 0), least[kind]);
        }
    }

    static void p24TheThicknessThatIsThereDoesNotCount() {
        IceByEar x = alone();
        x.hear(0, 9, 300);
        for (int thickness : new int[] {0, 1, 99}) {
            x.make(9, 0, thickness);
            span(x, 9, 30, 30);
        }
    }

    static void p24AllThatTheyHeardThereMustFit() {
        IceByEar x = alone();
        x.slip(0, 10);
        x.slip(1, 10);
        x.hear(0, 9, 300);
        span(x, 9, 30 - 1, 31);
        x.hear(1, 9, 310);
        span(x, 9, 29, 30);
        x.hear(1, 9, 291);
        span(x, 9, 30, 30);
        x.hear(0, 9, 311);
        Edges.is("nothing fits all", x.span(15, 9, 0), NONE);
        Edges.is("by the other alone", x.span(2, 9, 0), 30);
    }

    static void p24SixteenHeardOnOneSquare() {
        IceByEar x = alone();
        for (int i = 0; i < 15; i++) {
            x.hear(i % 4, 9, 300);
        }
        span(x, 9, 30, 30);
        x.hear(3, 9, 310);
        Edges.is("the 16th does not fit", x.span(15, 9, 0), NONE);
        Edges.is("without its hearer", x.span(7, 9, 0), 30);
    }

    static void p24AnEndIsNoMoreThanSteepBeyond() {
        IceByEar x = new IceByEar();
        x.hear(0, 27, 180);
        for (int steep : new int[] {0, 1, 10, 49, 50, 99}) {
            x.set(1, steep);
            for (int square : new int[] {27, 19, 26, 28, 35, 18, 24, 31, 0, 63}) {
                int far = Math.abs(square / 8 - 3) + Math.abs(square % 8 - 3);
                span(x, square, Math.max(1, 50 - steep * far), Math.min(99, 50 + steep * far));
            }
        }
    }

    static void p24EachEndIsNarrowedByItself() {
        IceByEar x = new IceByEar();
        x.set(1, 25);
        x.hear(0, 9, 450);
        x.hear(1, 11, 150);
        span(x, 9, 20, 20);
        span(x, 11, 60, 60);
        span(x, 10, 35, 45);
        span(x, 8, 1, 45);
        span(x, 12, 35, 85);
        span(x, 13, 10, 99);
    }

    static void p24JustSteepFitsOneMoreDoesNot() {
        IceByEar x = new IceByEar();
        x.hear(0, 0, 900);
        x.hear(1, 1, 450);
        span(x, 0, 10, 10);
        span(x, 1, 20, 20);
        x.set(1, 9);
        Edges.is("by 9", x.span(15, 0, 0), NONE);
        Edges.is("by 9 elsewhere", x.span(15, 63, 1), NONE);
        Edges.is("by one alone", x.span(1, 1, 1), 19);
        Edges.is("by the other alone", x.span(2, 0, 0), 11);
    }

    static void p24OnAndOnOverTheWholeLake() {
        IceByEar x = new IceByEar();
        x.hear(0, 0, 9000);
        x.hear(0, 63, 90);
        x.set(1, 7);
        span(x, 0, 1, 1);
        span(x, 63, 99, 99);
        x.set(1, 6);
        Edges.is("84 is less than 98", x.span(15, 5, 0), NONE);
    }

    static void p24NoNarrowingAroundTheEdge() {
        IceByEar x = new IceByEar();
        x.hear(0, 7, 900);
        x.hear(0, 8, 100);
        span(x, 7, 10, 10);
        span(x, 8, 90, 90);
        x.set(1, 9);
        Edges.is("80 is more than 8 times 9", x.span(15, 7, 0), NONE);
    }

    static void p24WhereNothingFitsOnOneSquareThereIsNoneAnywhere() {
        IceByEar x = alone();
        x.hear(2, 40, 9999);
        for (int square = 0; square < 64; square++) {
            Edges.is("least", x.span(15, square, 0), NONE);
            Edges.is("greatest", x.span(4, square, 1), NONE);
            Edges.is("without it", x.span(11, square, 1), 99);
        }
    }

    static void p24SpanChangesNothing() {
        Edges.same("span", Made.RICH.andThen(x -> x.span(15, 30, 0)), Made.RICH);
        Edges.leaves("span of FILLED", Made.FILLED, x -> x.span(15, 0, 0), 30);
    }

    // ---- promise 25: safe

    static void p25FromIsASquare() {
        Edges.takes(0, 63, (x, v) -> x.safe(v, 9, 1, 1));
    }

    static void p25ToIsASquare() {
        Edges.takes(0, 63, (x, v) -> x.safe(9, v, 1, 1));
    }

    static void p25LoadIs1To99() {
        Edges.takes(1, 99, (x, v) -> x.safe(0, 9, v, 1));
    }

    static void p25PaceIs1To9() {
        Edges.takes(1, 9, (x, v) -> x.safe(0, 9, 1, v));
    }

    static void p25BadIsToldBeforeNotBeforeNone() {
        IceByEar x = new IceByEar();
        Edges.is("none", x.safe(0, 1, 99, 9), NONE);
        Edges.is("bad of none", x.safe(0, 1, 100, 9), BAD);
        x.hear(0, 0, 9999);
        Edges.is("not, where there would be none either", x.safe(0, 1, 99, 9), NOT);
        Edges.is("bad of not", x.safe(0, 1, 99, 10), BAD);
        Edges.is("bad of not", x.safe(0, 64, 99, 9), BAD);
    }

    static void p25WhereNothingWasHeardTheLeastIs1() {
        IceByEar x = new IceByEar();
        Edges.is("1 bears nothing", x.safe(0, 1, 1, 1), NONE);
        Edges.is("not even on the spot", x.safe(0, 0, 1, 1), NONE);
        x.make(0, 4, 1);
        x.make(1, 4, 1);
        Edges.is("60 on a plank", x.safe(0, 1, 55, 1), 2);
        Edges.is("61 on a plank", x.safe(0, 1, 56, 1), NONE);
    }

    static void p25AsMuchAsTheLeastBears() {
        IceByEar x = new IceByEar();
        x.hear(0, 0, 180);
        Edges.is("160 on 40", x.safe(0, 1, 89, 8), 2);
        Edges.is("162 on 40", x.safe(0, 1, 90, 8), NONE);
        Edges.is("162 on 50", x.safe(0, 0, 90, 8), 1);
    }

    static void p25ByAllHearers() {
        IceByEar x = new IceByEar();
        x.set(1, 99);
        for (int hearer = 0; hearer < 4; hearer++) {
            x.hear(hearer, hearer, 180);
        }
        Edges.is("what each of them heard", x.safe(0, 3, 99, 9), 4);
        Edges.is("and no farther", x.safe(0, 4, 1, 1), NONE);
    }

    static void p25KindsAndPlanksAreAsTheyAreTheThicknessIsNot() {
        IceByEar x = new IceByEar();
        x.hear(0, 0, 180);
        x.make(0, 0, 0);
        x.make(1, 0, 0);
        Edges.is("water", x.safe(0, 1, 89, 8), 2);
        x.make(1, 1, 3);
        Edges.is("40 on HOLLOW ice of 40", x.safe(0, 1, 37, 1), 2);
        Edges.is("41 on HOLLOW ice of 40", x.safe(0, 1, 38, 1), NONE);
        x.make(1, 4, 2);
        Edges.is("two planks more", x.safe(0, 1, 89, 8), 2);
        Edges.is("two planks and no more", x.safe(0, 1, 90, 8), NONE);
    }

    static void p25TheFewestSquares() {
        IceByEar x = new IceByEar();
        x.set(1, 0);
        x.hear(0, 0, 180);
        Edges.is("from corner to corner", x.safe(0, 63, 99, 9), 15);
        Edges.is("on the spot", x.safe(63, 63, 99, 9), 1);
        x.make(1, 1, 3);
        x.make(8, 1, 3);
        Edges.is("shut in", x.safe(0, 63, 99, 9), NONE);
        Edges.is("around", x.safe(2, 9, 99, 9), 3);
        x.make(10, 1, 3);
        Edges.is("farther around", x.safe(2, 9, 99, 9), 7);
    }

    static void p25SafeChangesNothing() {
        Edges.same("safe", Made.RICH.andThen(x -> x.safe(0, 9, 1, 1)), Made.RICH);
        Edges.leaves("none", Made.NEW, x -> x.safe(0, 9, 1, 1), NONE);
        Edges.leaves("not", x -> x.hear(0, 0, 9999), x -> x.safe(0, 9, 1, 1), NOT);
    }

    // ---- promise 26: drum

    static void p26OfLikeOnesTheFirst() {
        IceByEar x = new IceByEar();
        Edges.is("all are alike", x.drum(), 0);
        x.set(1, 99);
        x.hear(0, 0, 180);
        Edges.is("all but the first", x.drum(), 1);
        x.set(1, 0);
        Edges.is("all are one wide", x.drum(), 0);
    }

    static void p26TheWidest() {
        IceByEar x = new IceByEar();
        x.hear(0, 0, 180);
        Edges.is("5 away", x.drum(), 5);
        x.set(1, 3);
        Edges.is("14 away", x.drum(), 63);
        x.hear(1, 63, 180);
        Edges.is("7 from both", x.drum(), 7);
        x.hear(1, 7, 180);
        Edges.is("7 from two, 8 from the third", x.drum(), 35);
    }

    static void p26ByAllHearers() {
        for (int hearer = 0; hearer < 4; hearer++) {
            IceByEar x = alone();
            x.hear(hearer, 0, 180);
            Edges.is("what " + hearer + " heard", x.drum(), 1);
        }
        IceByEar x = alone();
        for (int hearer = 0; hearer < 4; hearer++) {
            x.hear(hearer, hearer, 180);
            Edges.is("behind " + hearer, x.drum(), hearer + 1);
        }
    }

    static void p26WithoutSpansNone() {
        Edges.leaves("nothing fits", x -> x.hear(0, 0, 9999), x -> x.drum(), NONE);
        Edges.leaves("too steep", x -> {
            x.hear(0, 0, 900);
            x.hear(1, 1, 90);
        }, x -> x.drum(), NONE);
    }

    static void p26DrumChangesNothing() {
        Edges.same("drum", Made.RICH.andThen(x -> x.drum()), Made.RICH);
    }

    // ---- promise 27: liars

    static void p27NobodyLiedWhereThereAreSpans() {
        IceByEar x = new IceByEar();
        Edges.is("nothing heard", x.liars(), 0);
        for (int hearer = 0; hearer < 4; hearer++) {
            x.hear(hearer, 9, 300);
        }
        Edges.is("all agree", x.liars(), 0);
    }

    static void p27OneTwoThreeAndAllFour() {
        for (int set = 0; set < 16; set++) {
            IceByEar x = new IceByEar();
            for (int hearer = 0; hearer < 4; hearer++) {
                if ((set >> hearer & 1) == 1) {
                    x.hear(hearer, hearer, 9999);
                }
            }
            Edges.is("these", x.liars(), set);
        }
    }

    static void p27OfMoreSetsOfSoFewNone() {
        Edges.leaves("one of two", x -> {
            x.hear(0, 0, 300);
            x.hear(1, 0, 450);
        }, x -> x.liars(), NONE);
        Edges.leaves("two of four", x -> {
            x.hear(0, 0, 300);
            x.hear(1, 0, 450);
            x.hear(2, 0, 300);
            x.hear(3, 0, 450);
        }, x -> x.liars(), NONE);
        Edges.leaves("one of two, and one by himself", x -> {
            x.hear(0, 0, 300);
            x.hear(1, 0, 450);
            x.hear(2, 0, 9999);
        }, x -> x.liars(), NONE);
        Edges.leaves("three of four", x -> {
            for (int hearer = 0; hearer < 4; hearer++) {
                x.hear(hearer, 0, 9000 / (10 + 5 * hearer));
            }
        }, x -> x.liars(), NONE);
    }

    static void p27TheFewestAreToldThoughThereAreLargerSets() {
        IceByEar x = new IceByEar();
        x.hear(0, 0, 300);
        x.hear(1, 0, 450);
        x.hear(2, 0, 450);
        Edges.is("one against two", x.liars(), 1);
        x.hear(3, 0, 450);
        Edges.is("one against three", x.liars(), 1);
        x.deaf();
        x.hear(3, 0, 300);
        x.hear(0, 0, 450);
        x.hear(1, 0, 600);
        x.hear(3, 1, 9999);
        x.hear(0, 2, 9999);
        Edges.is("two who lied anyhow", x.liars(), 9);
    }

    static void p27BySteepness() {
        IceByEar x = new IceByEar();
        x.hear(1, 10, 9000);
        x.hear(3, 0, 90);
        x.hear(0, 1, 90);
        Edges.is("too steep", x.liars(), 2);
        x.set(1, 32);
        Edges.is("98 is more than 3 times 32", x.liars(), 2);
        x.set(1, 33);
        Edges.is("98 is no more than 3 times 33, but more than 2 times 33", x.liars(), NONE);
        x.set(1, 48);
        Edges.is("98 is more than 2 times 48", x.liars(), NONE);
        x.set(1, 49);
        Edges.is("98 is no more than 2 times 49", x.liars(), 0);
    }

    static void p27LiarsChangesNothing() {
        Edges.same("liars", Made.RICH.andThen(x -> x.liars()), Made.RICH);
    }
}
