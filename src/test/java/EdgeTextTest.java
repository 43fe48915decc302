import java.util.function.Consumer;

/** The edges of promises 6 to 8: type, ice, sleighs. */
public final class EdgeTextTest {
    private static final int BAD = IceByEar.BAD, FULL = IceByEar.FULL;
    private static final String DIGITS = "0123456789", ROW = "55555555";

    public static void main(String[] args) {
        Edges.run(EdgeTextTest.class, 6, 7, 8);
    }

    // ---- promise 6: type

    static void p06BytesAre1To8() {
        Edges.takes(1, 8, (x, v) -> x.type(0x3535353535353535L, v));
    }

    static void p06AByteIs32To126() {
        for (int sign = 0; sign < 256; sign++) {
            int one = sign;
            if (sign >= 32 && sign <= 126) {
                Edges.is("byte " + sign, new IceByEar().type(sign, 1), 1);
            } else {
                Edges.leaves("byte " + sign, x -> x.type(one, 1), BAD);
            }
        }
    }

    static void p06OneBadByteAmongEightIsEnough() {
        for (int at = 0; at < 8; at++) {
            for (long sign : new long[] {0, 31, 127, 128, 255}) {
                long w = 0x3535353535353535L & ~(255L << 8 * at) | sign << 8 * at;
                Edges.leaves("byte " + sign + " at " + at, x -> x.type(w, 8), BAD);
            }
        }
    }

    static void p06BytesAboveTheLowestNDoNotCount() {
        for (int n = 1; n < 8; n++) {
            long low = 0x3535353535353535L & (1L << 8 * n) - 1;
            Edges.is(n + " bytes below 0", new IceByEar().type(low, n), n);
            Edges.is(n + " bytes below 255", new IceByEar().type(-1L << 8 * n | low, n), n);
        }
        IceByEar x = new IceByEar();
        x.type(0x3031323334353637L, 1);
        Edges.is("one is told", x.ice(), 1);
        Edges.is("the lowest", x.told(0, 0), 70);
    }

    static void p06TheHighestOfTheLowestNComesFirst() {
        IceByEar x = new IceByEar();
        x.type(0x3132333435363738L, 8);
        Edges.is("eight", x.ice(), 8);
        for (int square = 0; square < 8; square++) {
            Edges.is("square " + square, x.told(square, 0), 10 * square + 10);
        }
    }

    static void p06WhatIsTypedComesBehindTheTape() {
        IceByEar x = new IceByEar();
        Edges.is("first", x.type(0x31L, 1), 1);
        Edges.is("second", x.type(0x3233L, 2), 3);
        Edges.is("third", x.type(0x343536L, 3), 6);
        Edges.is("six", x.ice(), 6);
        for (int square = 0; square < 6; square++) {
            Edges.is("square " + square, x.told(square, 0), 10 * square + 10);
        }
    }

    static void p06The140thByteIsTakenThe141stIsNot() {
        for (int n = 1; n <= 8; n++) {
            String typed = " ".repeat(140 - n), more = " ".repeat(n);
            IceByEar x = new IceByEar();
            Due.typed(x, typed);
            Edges.is("140 by " + n, x.type(Due.word(more), n), 140);
            Edges.is("141 by 1", x.type(32, 1), FULL);
            IceByEar y = new IceByEar();
            Due.typed(y, typed + " ");
            Edges.is("141 by " + n, y.type(Due.word(more), n), FULL);
        }
    }

    static void p06AFullTapeStaysAsItIs() {
        for (int n = 1; n <= 8; n++) {
            int bytes = n;
            Edges.leaves(n + " more", Made.FILLED, x -> x.type(0x3535353535353535L, bytes), FULL);
        }
    }

    static void p06WhatDoesNotFitIsNotTypedInPart() {
        IceByEar x = new IceByEar();
        Due.typed(x, " ".repeat(139));
        Edges.is("two more", x.type(0x3535L, 2), FULL);
        Edges.is("one more", x.type(0x36L, 1), 140);
        Edges.is("one is told", x.ice(), 1);
        Edges.is("the one", x.told(0, 0), 60);
    }

    static void p06BadIsToldBeforeFull() {
        Edges.leaves("no byte", Made.FILLED, x -> x.type(0x35L, 0), BAD);
        Edges.leaves("nine bytes", Made.FILLED, x -> x.type(0x3535353535353535L, 9), BAD);
        Edges.leaves("a byte 127", Made.FILLED, x -> x.type(127, 1), BAD);
    }

    static void p06AfterReadingAll140MayBeTypedAgain() {
        IceByEar x = new IceByEar();
        Made.FILLED.accept(x);
        Edges.is("read", x.sleighs(), 1);
        Edges.is("typed", Due.typed(x, " ".repeat(140)), 140);
    }

    // ---- promise 7: ice

    static void p07AnEmptyTapeIsAFaultAtTheEnd() {
        iceFault("", 0);
    }

    static void p07BlanksAloneAreAFaultAtTheEnd() {
        iceFault(" ", 1);
        iceFault("        ", 8);
        iceFault(" ".repeat(139), 139);
        iceFault(" ".repeat(140), 140);
    }

    /** The fault is told of that place, the tape is empty, nothing else has changed. */
    private static void iceFault(String text, int place) {
        IceByEar x = new IceByEar();
        Edges.is("ice of '" + text + "'", Due.ice(x, text), -20 - place);
        Edges.is("bytes then", x.type('5', 1), 1);
        Consumer<IceByEar> typed = Made.NO_TAPE.andThen(y -> Due.typed(y, text));
        Edges.same("ice of '" + text + "'", typed.andThen(y -> y.ice()), Made.NO_TAPE);
    }

    private static void iceTells(String text, int squares) {
        IceByEar x = new IceByEar();
        Edges.is("ice of '" + text + "'", Due.ice(x, text), squares);
        Edges.is("bytes then", x.type('5', 1), 1);
    }

    static void p07OneSquareIsEnough() {
        iceTells("0", 1);
        iceTells("9e", 1);
    }

    static void p07ARowHas1To8Squares() {
        for (int n = 1; n <= 8; n++) {
            iceTells("5".repeat(n), n);
            iceTells("5l".repeat(n), n);
        }
        iceFault(ROW + "5", 8);
        iceFault(ROW + " 5", 9);
        iceFault("5l".repeat(8) + "5", 16);
        iceFault("5/" + ROW + "5", 10);
    }

    static void p07NoRowIsEmpty() {
        iceFault("/", 0);
        iceFault("/5", 0);
        iceFault(" /5", 1);
        iceFault("5//5", 2);
        iceFault("5/ /5", 3);
        iceFault("5/", 2);
        iceFault("5/ ", 3);
        iceFault("5/5/", 4);
    }

    static void p07RowsAre1To8() {
        for (int n = 1; n <= 8; n++) {
            iceTells("5" + "/5".repeat(n - 1), n);
        }
        iceFault("5" + "/5".repeat(8), 15);
        iceFault("5" + "/5".repeat(7) + "/", 15);
        iceFault("5" + "/5".repeat(7) + "l/", 16);
        iceFault("5" + "/5".repeat(7) + " /", 16);
    }

    static void p07All64SquaresMayBeTold() {
        for (String square : new String[] {"0", "9", "1l", "2c", "3o", "4e"}) {
            IceByEar x = new IceByEar();
            String row = square.repeat(8);
            Edges.is("squares", Due.ice(x, (row + "/").repeat(7) + row), 64);
            for (int at = 0; at < 64; at++) {
                Edges.is("thickness", x.told(at, 0), 10 * (square.charAt(0) - '0'));
                Edges.is("kind", x.told(at, 1), square.length() < 2 ? 0 : 1 + "lcoe".indexOf(square.charAt(1)));
            }
        }
        String row = "7c".repeat(8);
        iceTells((row + "/").repeat(7) + row + "     ", 64);
    }

    static void p07RowsLieFromTheFirstSquareOn() {
        IceByEar x = new IceByEar();
        Edges.is("squares", Due.ice(x, "1/2/3/4/5/6/7/89"), 9);
        for (int row = 0; row < 8; row++) {
            Edges.is("the first of " + row, x.told(8 * row, 0), 10 * row + 10);
            Edges.is("the second of " + row, x.told(8 * row + 1, 0), row < 7 ? 30 : 90);
        }
    }

    static void p07ADigitIsThickness0To90() {
        IceByEar x = new IceByEar();
        Edges.is("eight", Due.ice(x, "01234567/89"), 10);
        for (int digit = 0; digit <= 9; digit++) {
            Edges.is("digit " + digit, x.told(digit, 0), 10 * digit);
        }
    }

    static void p07OnlyLCOEAreKindsAndGreyHasNone() {
        IceByEar x = new IceByEar();
        Made.lake(x, '5');
        x.make(0, 1, 4);
        Edges.is("five", Due.ice(x, "55l5c5o5e"), 5);
        for (int kind = 0; kind <= 4; kind++) {
            Edges.is("kind", x.told(kind, 1), kind);
        }
    }

    static void p07WhatIsToldHasNoSnowNoSpringNoPlanks() {
        IceByEar x = new IceByEar();
        for (int square = 0; square < 2; square++) {
            for (int what = 2; what <= 4; what++) {
                x.make(square, what, 1);
            }
        }
        Edges.is("one", Due.ice(x, "3"), 1);
        for (int what = 2; what <= 4; what++) {
            Edges.is("told " + what, x.told(0, what), 0);
            Edges.is("not told " + what, x.told(1, what), 1);
        }
    }

    static void p07OthersStay() {
        Edges.same("ice of what is there", Made.NO_TAPE.andThen(x -> {
            Due.ice(x, "9/4321/0l");
            x.make(0, 0, 13);
            x.make(0, 1, 1);
            x.make(0, 2, 3);
            x.make(9, 2, 9);
        }), Made.NO_TAPE);
    }

    static void p07BlanksDoNotCountButInPlaces() {
        iceTells(" 5 ", 1);
        iceTells("5 l", 1);
        iceTells(" 5 l / 6  c 7 / 8 ", 4);
        iceTells("5 5", 2);
        iceFault(" 5 l l", 5);
        iceFault("5 5 x", 4);
        iceFault("5  ,", 3);
    }

    static void p07AKindStandsBehindADigitAndOnlyOnce() {
        for (String kind : new String[] {"l", "c", "o", "e"}) {
            iceFault(kind, 0);
            iceFault(kind + "5", 0);
            iceFault("5" + kind + kind, 2);
            iceFault("5/" + kind, 2);
            iceFault("5" + kind + "/" + kind, 3);
        }
    }

    /** Every byte behind the beginning of a text: those that may stand there give no fault of that place, others do. */
    private static void mayStand(boolean isIce, String before, String signs) {
        for (char sign = 33; sign <= 126; sign++) {
            IceByEar x = new IceByEar();
            Due.typed(x, before + sign);
            int answer = isIce ? x.ice() : x.sleighs(), fault = -20 - before.length();
            if (signs.indexOf(sign) < 0) {
                Edges.is("'" + before + sign + "'", answer, fault);
            } else {
                Edges.is("'" + before + sign + "' is no fault there", answer == fault ? 1 : 0, 0);
            }
        }
    }

    static void p07WhichBytesMayStandAtEachPlace() {
        for (String blank : new String[] {"", " ", "  "}) {
            mayStand(true, blank, DIGITS);
            mayStand(true, "5" + blank, DIGITS + "lcoe/");
            mayStand(true, "5l" + blank, DIGITS + "/");
            mayStand(true, "5/" + blank, DIGITS);
            mayStand(true, "5e/" + blank, DIGITS);
            mayStand(true, ROW + blank, "lcoe/");
            mayStand(true, ROW + "c" + blank, "/");
            mayStand(true, "5/5/5/5/5/5/5/5" + blank, DIGITS + "lcoe");
            mayStand(true, "5/5/5/5/5/5/5/5o" + blank, DIGITS);
            mayStand(true, "5/5/5/5/5/5/5/" + ROW + blank, "lcoe");
            mayStand(true, "5/5/5/5/5/5/5/" + ROW + "e" + blank, "");
        }
    }

    static void p07OfTwoFaultsTheFirstIsTold() {
        iceFault("5x/y", 1);
        iceFault("x" + ROW + ROW, 0);
        iceFault(ROW + "5/", 8);
    }

    static void p07AFaultAtTheLastOf140Bytes() {
        iceFault("5" + " ".repeat(138) + "x", 139);
        iceFault("5/" + " ".repeat(138), 140);
        iceTells(" ".repeat(139) + "5", 1);
    }

    static void p07NothingOfAFaultyTextComesIn() {
        IceByEar x = new IceByEar();
        iceFault("9l9l/9l9lx", 9);
        Due.ice(x, "9l9l/9l9lx");
        Edges.is("a lesser text then", Due.ice(x, "1"), 1);
        Edges.is("its square", x.told(0, 0), 10);
        for (int square : new int[] {1, 8, 9}) {
            Edges.is("thickness", x.told(square, 0), 30);
            Edges.is("kind", x.told(square, 1), 0);
        }
    }

    // ---- promise 8: sleighs

    private static void sleighFault(String text, int place) {
        IceByEar x = new IceByEar();
        Edges.is("sleighs of '" + text + "'", Due.sleighs(x, text), -20 - place);
        Edges.is("bytes then", x.type('5', 1), 1);
        Consumer<IceByEar> typed = Made.NO_TAPE.andThen(y -> Due.typed(y, text));
        Edges.same("sleighs of '" + text + "'", typed.andThen(y -> y.sleighs()), Made.NO_TAPE);
    }

    /** The sleighs of a text are those that come one by one by these numbers (load, pace, start). */
    private static void sleighsTell(String text, int... numbers) {
        IceByEar x = new IceByEar();
        Edges.is("sleighs of '" + text + "'", Due.sleighs(x, text), numbers.length / 3);
        Edges.is("bytes then", x.type('5', 1), 1);
        Edges.same("sleighs of '" + text + "'", Made.NO_TAPE.andThen(y -> Due.sleighs(y, text)),
            Made.NO_TAPE.andThen(y -> {
                y.home();
                for (int i = 0; i < numbers.length; i += 3) {
                    y.sleigh(numbers[i], numbers[i + 1], numbers[i + 2]);
                }
            }));
    }

    static void p08AnEmptyTapeIsAFaultAtTheEnd() {
        sleighFault("", 0);
    }

    static void p08BlanksAloneAreAFaultAtTheEnd() {
        sleighFault(" ", 1);
        sleighFault(" ".repeat(139), 139);
        sleighFault(" ".repeat(140), 140);
    }

    static void p08SleighsAre1To6() {
        sleighsTell("1p1", 1, 1, 0);
        sleighsTell("1p1,2p2m1,3p3m3,4p4m6,5p5m9,6p6m12", 1, 1, 0, 2, 2, 1, 3, 3, 3, 4, 4, 6, 5, 5, 9, 6, 6, 12);
        sleighFault("1p1,1p1,1p1,1p1,1p1,1p1,1p1", 23);
        sleighFault("1p1,1p1,1p1,1p1,1p1,1p1,", 23);
        sleighFault("1p1,1p1,1p1,1p1,1p1,1p1m5,1p1", 25);
        sleighFault("1p1,1p1,1p1,1p1,1p1,1p1 ,1p1", 24);
    }

    static void p08LoadIs1To99() {
        sleighsTell("1p5", 1, 5, 0);
        sleighsTell("99p5", 99, 5, 0);
        sleighFault("0p5", 0);
        sleighFault("100p5", 0);
        sleighFault("1p5,0p5", 4);
        sleighFault("1p5, 100p5", 5);
    }

    static void p08PaceIsADigit1To9() {
        sleighsTell("5p1", 5, 1, 0);
        sleighsTell("5p9", 5, 9, 0);
        sleighFault("5p0", 2);
        sleighFault("5p10", 3);
        sleighFault("5p01", 2);
        sleighFault("5p1 0", 4);
    }

    static void p08StartIs0To99AndNoneIs0() {
        sleighsTell("5p5m0", 5, 5, 0);
        sleighsTell("5p5m99", 5, 5, 99);
        sleighsTell("5p5", 5, 5, 0);
        sleighFault("5p5m100", 4);
        sleighFault("5p5m 100", 5);
        sleighFault("5p5m-1", 4);
    }

    static void p08AVeryLongNumberMayNotBe() {
        for (String number : new String[] {"4294967297", "2147483648", "18446744073709551617", "9".repeat(100),
            "1" + "0".repeat(99)}) {
            sleighFault(number + "p1", 0);
            sleighFault("5p1m" + number, 4);
        }
    }

    static void p08ZerosMayStandBeforeANumber() {
        sleighsTell("0".repeat(100) + "7p3m" + "0".repeat(20), 7, 3, 0);
        sleighsTell("007p1m00099", 7, 1, 99);
        sleighFault("00p1", 0);
        sleighFault("000100p1", 0);
    }

    static void p08BlanksDoNotCountButEndANumber() {
        sleighsTell(" 5 p 1 m 2 ", 5, 1, 2);
        sleighsTell("12 p3 , 4p5 m67 ", 12, 3, 0, 4, 5, 67);
        sleighFault("1 2p3", 2);
        sleighFault("12p3m4 5", 7);
        sleighFault("0 5p1", 0);
        sleighFault("100 p1", 0);
    }

    static void p08TheEndIsAFaultWhereMoreMustStand() {
        sleighFault("5", 1);
        sleighFault("5 ", 2);
        sleighFault("5p", 2);
        sleighFault("5p ", 3);
        sleighFault("5p1m", 4);
        sleighFault("5p1m  ", 6);
        sleighFault("5p1,", 4);
        sleighFault("5p1, ", 5);
        sleighFault("5p1m2,", 6);
    }

    static void p08ANumberThatMayNotBeIsToldBeforeWhatFollows() {
        sleighFault("100", 0);
        sleighFault("0x", 0);
        sleighFault("100 x", 0);
        sleighFault("5p1m100,x", 4);
    }

    static void p08WhichBytesMayStandAtEachPlace() {
        String five = "1p1,1p1,1p1,1p1,1p1,";
        for (String blank : new String[] {"", " ", "  "}) {
            boolean ends = blank.isEmpty();
            mayStand(false, blank, DIGITS.substring(1));
            mayStand(false, "5" + blank, ends ? DIGITS + "p" : "p");
            mayStand(false, "5p" + blank, DIGITS.substring(1));
            mayStand(false, "5p1" + blank, "m,");
            mayStand(false, "5p1m" + blank, DIGITS);
            mayStand(false, "5p1m5" + blank, ends ? DIGITS + "," : ",");
            mayStand(false, "5p1," + blank, DIGITS.substring(1));
            mayStand(false, "5p1m5," + blank, DIGITS.substring(1));
            mayStand(false, five + "5p1" + blank, "m");
            mayStand(false, five + "5p1m5" + blank, ends ? DIGITS : "");
        }
    }

    static void p08OneComesInPlaceOfSix() {
        Edges.same("one", Made.FILLED.andThen(x -> x.sleighs()), Made.FILLED.andThen(x -> {
            x.sleighs();
            x.home();
            x.sleigh(30, 3, 0);
        }));
        IceByEar x = new IceByEar();
        Made.FILLED.accept(x);
        Edges.is("one told", x.sleighs(), 1);
        Edges.is("one is there", x.count(0), 1);
    }

    static void p08SixComeWhereNoneWere() {
        IceByEar x = new IceByEar();
        Edges.is("six", Due.sleighs(x, "1p1,1p1,1p1,1p1,1p1,1p1"), 6);
        Edges.is("no more", x.sleigh(1, 1, 1), FULL);
    }

    static void p08ByAFaultAllSixStay() {
        IceByEar x = new IceByEar();
        for (int i = 0; i < 6; i++) {
            x.sleigh(10 + i, 1, 10 * i);
        }
        x.step(0);
        Edges.is("fault", Due.sleighs(x, "99p9,98p9,97p9,96p9,95p9,94p"), -48);
        Edges.is("six", x.count(0), 6);
        Edges.is("the first", x.need(0, 0), 11);
    }

    static void p08AFaultAtTheLastOf140Bytes() {
        sleighFault("5p1" + " ".repeat(136) + "x", 139);
        sleighFault("5p1" + " ".repeat(136) + ",", 140);
        sleighsTell(" ".repeat(137) + "5p1", 5, 1, 0);
    }
}
