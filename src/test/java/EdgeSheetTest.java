import java.util.function.Consumer;

/** The edges of promises 30 to 34: go, film, sheet, drop, item. */
public final class EdgeSheetTest {
    private static final int BAD = IceByEar.BAD, NOT = IceByEar.NOT, FULL = IceByEar.FULL;
    private static final int NULL = IceByEar.NULL, CAST = IceByEar.CAST, INDEX = IceByEar.INDEX, SIZE = IceByEar.SIZE;
    private static final int LEAST = Integer.MIN_VALUE, MOST = Integer.MAX_VALUE;

    public static void main(String[] args) {
        Edges.run(EdgeSheetTest.class, 30, 31, 32, 33, 34);
    }

    /** Sheet 0 is of whether, 1 of bytes, 2 of longs, of n items each; 3 holds nothing. */
    private static Consumer<IceByEar> lanes(int n) {
        return x -> {
            for (int lane = 0; lane < 3; lane++) {
                x.sheet(lane, lane, n);
            }
            Due.way(x, 62, 63);
        };
    }

    private static IceByEar withLanes(int n) {
        IceByEar x = new IceByEar();
        lanes(n).accept(x);
        return x;
    }

    // ---- promise 30: go

    static void p30SheetsAre0To3() {
        Edges.takes(0, 3, (x, v) -> x.go(v, 1, 0, 1));
    }

    static void p30LanesAre1And2() {
        Edges.takes(1, 2, (x, v) -> x.go(0, v, 0, 1));
        Edges.leaves("lane 0 of a sheet of whether", x -> x.go(2, 0, 0, 1), BAD);
    }

    static void p30SquaresAre1To24() {
        Edges.takes(1, 24, (x, v) -> x.go(0, 1, 0, v));
    }

    static void p30All24ItemsMayBeTheWay() {
        for (int lane = 1; lane <= 2; lane++) {
            IceByEar x = withLanes(24);
            for (int i = 0; i < 24; i++) {
                x.item(lane, lane, i, Made.winding(i));
            }
            Edges.is("24 by lane " + lane, x.go(lane, lane, 0, 24), 24);
            Edges.is("places", x.count(1), 24);
            Edges.is("no more", x.step(31), FULL);
            Edges.is("the last alone", x.go(lane, lane, 23, 1), 1);
            Edges.is("it is 23", x.step(31), 2);
        }
    }

    static void p30ASheetOfNothingIsNull() {
        for (int lane = 1; lane <= 2; lane++) {
            int as = lane;
            Edges.leaves("lane " + lane, x -> x.go(3, as, 0, 1), NULL);
            Edges.leaves("lane " + lane + " from -1", x -> x.go(3, as, -1, 24), NULL);
        }
    }

    static void p30AnotherLaneIsCast() {
        int[][] others = {{0, 1}, {0, 2}, {1, 2}, {2, 1}};
        for (int[] other : others) {
            for (int from : new int[] {0, -1, 24, LEAST, MOST}) {
                Edges.leaves(other[0] + " as " + other[1] + " from " + from, lanes(24),
                    x -> x.go(other[0], other[1], from, 1), CAST);
            }
        }
    }

    static void p30ItemsFromTheFirstToTheLast() {
        for (int lane = 1; lane <= 2; lane++) {
            int as = lane;
            Consumer<IceByEar> made = lanes(5).andThen(x -> {
                for (int i = 0; i < 5; i++) {
                    x.item(as, as, i, 40 + i);
                }
            });
            for (int from = 0; from <= 5; from++) {
                int at = from, rest = 5 - from;
                IceByEar x = new IceByEar();
                made.accept(x);
                if (rest > 0) {
                    Edges.is(rest + " from " + from, x.go(as, as, from, rest), rest);
                    Edges.is("its end is 44", x.step(36), rest + 1);
                }
                Edges.leaves(rest + 1 + " from " + from, made, y -> y.go(as, as, at, rest + 1), INDEX);
            }
            for (int from : new int[] {-1, LEAST, 6, MOST, MOST - 23}) {
                Edges.leaves("1 from " + from, made, y -> y.go(as, as, from, 1), INDEX);
                Edges.leaves("24 from " + from, made, y -> y.go(as, as, from, 24), INDEX);
            }
        }
    }

    static void p30ASheetOf0ItemsHasNone() {
        for (int lane = 1; lane <= 2; lane++) {
            int as = lane;
            for (int from : new int[] {-1, 0, 1}) {
                Edges.leaves("from " + from, lanes(0), x -> x.go(as, as, from, 1), INDEX);
            }
        }
    }

    static void p30BadIsToldBeforeNullCastIndexNot() {
        Edges.leaves("0 squares of nothing", x -> x.go(3, 1, 0, 0), BAD);
        Edges.leaves("25 squares of nothing", x -> x.go(3, 1, 0, 25), BAD);
        Edges.leaves("lane 3 of nothing", x -> x.go(3, 3, 0, 1), BAD);
        Edges.leaves("25 squares of another lane", x -> x.go(0, 2, 0, 25), BAD);
        Edges.leaves("25 squares from -1", x -> x.go(0, 1, -1, 25), BAD);
    }

    static void p30IndexIsToldBeforeNot() {
        Edges.leaves("no square, beyond", lanes(3).andThen(x -> x.item(1, 1, 0, 64)), x -> x.go(1, 1, 0, 4), INDEX);
        Edges.leaves("no square", lanes(3).andThen(x -> x.item(1, 1, 0, 64)), x -> x.go(1, 1, 0, 3), NOT);
    }

    static void p30OneThatIsNoSquareIsNot() {
        long[] none = {64, -1, 127, -128, Long.MIN_VALUE, Long.MAX_VALUE, 1L << 32, 1L << 63, (1L << 32) + 1, 256};
        for (int lane = 1; lane <= 2; lane++) {
            int as = lane;
            for (long v : none) {
                // The lowest bits of some of these are a square.
                if (lane == 1 && (byte) v >= 0 && (byte) v < 64) {
                    continue;
                }
                for (int at = 0; at < 3; at++) {
                    int place = at;
                    Consumer<IceByEar> made = lanes(3).andThen(x -> {
                        x.item(as, as, 1, 1);
                        x.item(as, as, place, v);
                    });
                    Edges.leaves(v + " at " + at + " by lane " + lane, made, x -> x.go(as, as, 0, 3), NOT);
                }
            }
        }
    }

    static void p30TheSquares0And63AreTaken() {
        for (int lane = 1; lane <= 2; lane++) {
            IceByEar x = withLanes(1);
            Edges.is("0", x.go(lane, lane, 0, 1), 1);
            Edges.is("it is 0", x.step(8), 2);
            x.item(lane, lane, 0, 63);
            Edges.is("63", x.go(lane, lane, 0, 1), 1);
            Edges.is("it is 63", x.step(55), 2);
        }
    }

    static void p30OneNotNextToTheOneBeforeIsNot() {
        int[][] pairs = {{0, 0}, {7, 8}, {8, 7}, {0, 9}, {0, 2}, {0, 56}, {56, 63}, {63, 0}};
        for (int lane = 1; lane <= 2; lane++) {
            int as = lane;
            for (int[] pair : pairs) {
                Consumer<IceByEar> made = lanes(2).andThen(x -> {
                    x.item(as, as, 0, pair[0]);
                    x.item(as, as, 1, pair[1]);
                });
                Edges.leaves(pair[0] + " to " + pair[1], made, x -> x.go(as, as, 0, 2), NOT);
            }
        }
    }

    static void p30ItComesInPlaceOfTheWay() {
        IceByEar x = new IceByEar();
        Made.FILLED.accept(x);
        Edges.is("one in place of 24", x.go(0, 1, 2, 1), 1);
        Edges.is("one", x.count(1), 1);
        Edges.is("it need not be next to what was the last", x.step(26), 2);
        Edges.is("items before it do not count", x.go(0, 1, 1, 2), 2);
    }

    static void p30TheSheetStays() {
        Edges.same("go", lanes(3).andThen(x -> x.go(1, 1, 0, 1)), lanes(3).andThen(x -> Due.way(x, 0)));
    }

    // ---- promise 31: film

    static void p31RowsAre0To7() {
        Edges.takes(0, 7, (x, v) -> x.film(v, 2, 0));
    }

    static void p31SheetsAre0To3() {
        Edges.takes(0, 3, (x, v) -> x.film(0, v, 0));
    }

    static void p31ASheetOfNothingIsNull() {
        for (int from : new int[] {0, -1, 24, LEAST, MOST}) {
            Edges.leaves("from " + from, x -> x.film(0, 3, from), NULL);
        }
    }

    static void p31AnotherLaneIsCast() {
        for (int from : new int[] {0, -1, 24, LEAST, MOST}) {
            Edges.leaves("bytes from " + from, lanes(24), x -> x.film(0, 1, from), CAST);
            Edges.leaves("longs from " + from, lanes(24), x -> x.film(0, 2, from), CAST);
        }
    }

    static void p31EightItemsMustFindRoom() {
        for (int n = 0; n <= 24; n++) {
            IceByEar x = withLanes(n);
            if (n >= 8) {
                Edges.is("the first of " + n, x.film(0, 0, 0), 8);
                Edges.is("the last of " + n, x.film(0, 0, n - 8), 8);
            }
            for (int from : new int[] {-1, Math.max(0, n - 7), n, n + 1, LEAST, MOST, MOST - 7}) {
                Edges.is("from " + from + " of " + n, x.film(0, 0, from), INDEX);
            }
            Edges.is("items", x.drop(0), n);
        }
        Edges.leaves("from 2 of 9", x -> x.film(0, 2, 2), INDEX);
        Edges.leaves("from -1 of 9", x -> x.film(0, 2, -1), INDEX);
    }

    static void p31BadIsToldBeforeNullCastIndex() {
        Edges.leaves("row 8 to nothing", x -> x.film(8, 3, 0), BAD);
        Edges.leaves("row -1 to bytes", x -> x.film(-1, 0, 0), BAD);
        Edges.leaves("row 8 from -1", x -> x.film(8, 2, -1), BAD);
    }

    static void p31NoneTo8HaveThicknessAbove0() {
        for (int row = 0; row < 8; row++) {
            IceByEar x = withLanes(8);
            for (int column = 0; column < 8; column++) {
                Edges.is("of row " + row, x.film(row, 0, 0), 8 - column);
                x.make(8 * row + column, 0, 0);
            }
            Edges.is("none of row " + row, x.film(row, 0, 0), 0);
            x.make(8 * row, 4, 3);
            Edges.is("planks are no ice", x.film(row, 0, 0), 0);
            x.make(8 * row, 0, 1);
            Edges.is("1 is above 0", x.film(row, 0, 0), 1);
            Edges.is("other rows", x.film((row + 1) % 8, 0, 0), 8);
        }
    }

    static void p31NothingButTheItemsChanges() {
        Edges.same("film", Made.RICH.andThen(x -> x.film(1, 2, 1)), Made.RICH);
    }

    // ---- promise 32: sheet

    static void p32SheetsAre0To3() {
        Edges.takes(0, 3, (x, v) -> x.sheet(v, 1, 1));
    }

    static void p32LanesAre0To2() {
        Edges.takes(0, 2, (x, v) -> x.sheet(3, v, 1));
    }

    static void p32ItemsAre0To24() {
        for (int lane = 0; lane < 3; lane++) {
            IceByEar x = new IceByEar();
            for (int n : new int[] {0, 1, 23, 24}) {
                Edges.is(n + " items", x.sheet(0, lane, n), n);
                Edges.is("no item " + n, x.item(0, lane, n, 1), INDEX);
                if (n > 0) {
                    Edges.is("the last item", x.item(0, lane, n - 1, 1), 1);
                }
                Edges.is("it had", x.drop(0), n);
            }
        }
    }

    static void p32Above24IsBad() {
        for (int n : new int[] {25, 26, MOST}) {
            for (int sheet = 0; sheet < 4; sheet++) {
                int which = sheet;
                Edges.leaves(n + " items of " + sheet, x -> x.sheet(which, 1, n), BAD);
            }
        }
    }

    static void p32Below0IsSize() {
        for (int n : new int[] {-1, -2, LEAST}) {
            for (int sheet = 0; sheet < 4; sheet++) {
                int which = sheet;
                Edges.leaves(n + " items of " + sheet, x -> x.sheet(which, 1, n), SIZE);
            }
        }
    }

    static void p32BadIsToldBeforeSize() {
        Edges.leaves("sheet 4", x -> x.sheet(4, 1, -1), BAD);
        Edges.leaves("sheet -1", x -> x.sheet(-1, 1, -1), BAD);
        Edges.leaves("lane 3", x -> x.sheet(0, 3, -1), BAD);
        Edges.leaves("lane -1", x -> x.sheet(0, -1, -1), BAD);
    }

    static void p32ANewRowIsOfItemsOf0() {
        for (int lane = 1; lane <= 2; lane++) {
            IceByEar x = withLanes(24);
            for (int i = 0; i < 24; i++) {
                x.item(lane, lane, i, 64);
            }
            x.sheet(lane, lane, 24);
            for (int i = 0; i < 24; i++) {
                Edges.is("item " + i, x.go(lane, lane, i, 1), 1);
                Edges.is("is 0", x.step(8) + x.step(9), 5);
            }
        }
    }

    static void p32ItComesInPlaceOfAnyOther() {
        for (int before = 0; before < 3; before++) {
            for (int lane = 0; lane < 3; lane++) {
                IceByEar x = new IceByEar();
                x.sheet(0, before, 24);
                Edges.is("new", x.sheet(0, lane, 2), 2);
                for (int as = 0; as < 3; as++) {
                    Edges.is(before + ", then " + lane + ", as " + as, x.item(0, as, 1, 1), as == lane ? 1 : CAST);
                }
                Edges.is("two items", x.drop(0), 2);
            }
        }
    }

    static void p32OtherSheetsStay() {
        Edges.same("sheet 3 came and went", Made.RICH.andThen(x -> {
            x.sheet(3, 1, 24);
            x.drop(3);
        }), Made.RICH);
    }

    // ---- promise 33: drop

    static void p33SheetsAre0To3() {
        Edges.takes(0, 3, (x, v) -> x.drop(v));
    }

    static void p33ASheetOfNothingIsNull() {
        Edges.leaves("sheet 3", x -> x.drop(3), NULL);
        for (int sheet = 0; sheet < 4; sheet++) {
            int which = sheet;
            Edges.leaves("sheet " + sheet, Made.NEW, x -> x.drop(which), NULL);
        }
    }

    static void p33HowManyItemsItHad() {
        for (int sheet = 0; sheet < 4; sheet++) {
            for (int lane = 0; lane < 3; lane++) {
                for (int n : new int[] {0, 1, 24}) {
                    IceByEar x = new IceByEar();
                    x.sheet(sheet, lane, n);
                    Edges.is("items", x.drop(sheet), n);
                    Edges.is("nothing is left", x.drop(sheet), NULL);
                    Edges.is("no item", x.item(sheet, lane, 0, 1), NULL);
                }
            }
        }
    }

    static void p33OtherSheetsStay() {
        Edges.same("sheet 0 dropped and made again", Made.RICH.andThen(x -> {
            x.drop(0);
            Made.sheet(x, 0, 1, 5, 9, 10, 18, 17, 16);
        }), Made.RICH);
    }

    // ---- promise 34: item

    static void p34SheetsAre0To3() {
        Edges.takes(0, 3, (x, v) -> x.item(v, 1, 0, 1));
    }

    static void p34LanesAre0To2() {
        Edges.takes(0, 2, (x, v) -> x.item(0, v, 0, 1));
    }

    static void p34ASheetOfNothingIsNull() {
        for (int lane = 0; lane < 3; lane++) {
            for (int i : new int[] {0, -1, 24, LEAST, MOST}) {
                int as = lane;
                Edges.leaves("item " + i + " as " + lane, x -> x.item(3, as, i, 1), NULL);
            }
        }
    }

    static void p34AnotherLaneIsCast() {
        for (int lane = 0; lane < 3; lane++) {
            for (int other = 0; other < 3; other++) {
                for (int i : new int[] {0, -1, 24, LEAST, MOST}) {
                    int is = lane, as = other;
                    if (is != as) {
                        Edges.leaves(is + " as " + as + ", " + i, lanes(24), x -> x.item(is, as, i, 1), CAST);
                    }
                }
            }
        }
    }

    static void p34ItemsFromTheFirstToTheLast() {
        for (int n : new int[] {0, 1, 24}) {
            for (int lane = 0; lane < 3; lane++) {
                int as = lane;
                for (int i : new int[] {-1, n, n + 1, LEAST, MOST}) {
                    Edges.leaves("item " + i + " of " + n, lanes(n), x -> x.item(as, as, i, 1), INDEX);
                }
                if (n > 0) {
                    IceByEar x = withLanes(n);
                    Edges.is("the first of " + n, x.item(lane, lane, 0, 1), 1);
                    Edges.is("the last of " + n, x.item(lane, lane, n - 1, 1), 1);
                }
            }
        }
    }

    static void p34BadIsToldBeforeNullCastIndex() {
        Edges.leaves("lane 3 of nothing", x -> x.item(3, 3, 0, 1), BAD);
        Edges.leaves("lane -1 of nothing", x -> x.item(3, -1, 0, 1), BAD);
        Edges.leaves("lane 3, item -1", x -> x.item(0, 3, -1, 1), BAD);
    }

    static void p34OfBytesTheLowestBits() {
        long[] values = {9, 256 + 9, -256 + 9, Long.MIN_VALUE + 9, Long.MAX_VALUE - 255 + 9, (1L << 32) + 9};
        for (long v : values) {
            IceByEar x = withLanes(1);
            Edges.is("item", x.item(1, 1, 0, v), 1);
            Edges.is("a square", x.go(1, 1, 0, 1), 1);
            Edges.is("it is 9", x.step(17) + x.step(9) + x.step(1), 9);
        }
    }

    static void p34OfLongsAllBits() {
        for (long v : new long[] {256 + 9, -256 + 9, Long.MIN_VALUE + 9, (1L << 32) + 9}) {
            IceByEar x = withLanes(1);
            Edges.is("item", x.item(2, 2, 0, v), 1);
            Edges.is("no square", x.go(2, 2, 0, 1), NOT);
        }
    }

    static void p34AnyLongIsTakenByEveryLane() {
        for (int lane = 0; lane < 3; lane++) {
            for (long v : new long[] {0, 1, -1, Long.MIN_VALUE, Long.MAX_VALUE, 1L << 32}) {
                Edges.is(v + " by lane " + lane, withLanes(1).item(lane, lane, 0, v), 1);
            }
        }
    }

    static void p34OnlyThatItemChanges() {
        for (int lane = 1; lane <= 2; lane++) {
            int as = lane;
            Edges.same("there and back", Made.FILLED.andThen(x -> {
                x.item(as - 1, as, 4, 40);
                x.item(as - 1, as, 4, as == 1 ? 16 : 0);
            }), Made.FILLED);
            IceByEar x = withLanes(24);
            x.item(lane, lane, 12, 63);
            for (int i = 0; i < 24; i++) {
                x.go(lane, lane, i, 1);
                Edges.is("item " + i, x.step(i == 12 ? 62 : 1), 2);
            }
        }
    }
}
