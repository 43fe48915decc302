import java.util.ArrayList;
import java.util.List;
import java.util.function.Consumer;

/**
 * Lays bare all that later calls can tell of an object. Each look spoils its object, and an object has but 512 calls:
 * so each look is had at an object of its own that is made anew.
 */
final class Bare {
    private interface Look {
        void at(IceByEar x, StringBuilder told);
    }

    private Bare() {
    }

    static List<String> of(Consumer<IceByEar> made) {
        List<String> all = new ArrayList<>();
        lookAtScene(made, all, false);
        lookAtScene(made, all, true);
        look(made, all, "tape as ice", Bare::tapeAsIce);
        look(made, all, "tape as sleighs", Bare::tapeAsSleighs);
        for (int sheet = 0; sheet < 4; sheet++) {
            int which = sheet;
            look(made, all, "sheet " + sheet, (x, told) -> sheet(x, told, which));
        }
        return all;
    }

    /** What an image keeps, as it is now, or as it is when restored. */
    private static void lookAtScene(Consumer<IceByEar> made, List<String> all, boolean restored) {
        Consumer<IceByEar> scene = restored ? made.andThen(x -> x.restore()) : made;
        String when = restored ? "restored " : "";
        if (restored) {
            look(made, all, "restore", (x, told) -> told.append(x.restore()));
        }
        look(scene, all, when + "squares", Bare::squares);
        look(scene, all, when + "numbers", Bare::numbers);
        look(scene, all, when + "sleighs", Bare::sleighs);
        look(scene, all, when + "spans", (x, told) -> spans(x, told, 15));
        for (int hearer = 0; hearer < 4; hearer++) {
            int by = 1 << hearer;
            look(scene, all, when + "heard by " + hearer, (x, told) -> heard(x, told, by));
        }
        IceByEar one = new IceByEar();
        scene.accept(one);
        int places = one.count(1);
        for (int place = 0; place < places; place++) {
            int which = place;
            look(scene, all, when + "place " + place, (x, told) -> place(x, told, which));
        }
    }

    private static void look(Consumer<IceByEar> made, List<String> all, String name, Look look) {
        IceByEar x = new IceByEar();
        made.accept(x);
        StringBuilder told = new StringBuilder(name).append(':');
        look.at(x, told);
        all.add(told.toString());
    }

    private static void add(StringBuilder told, long answer) {
        told.append(' ').append(answer);
    }

    private static void squares(IceByEar x, StringBuilder told) {
        for (int square = 0; square < 64; square++) {
            for (int what = 0; what <= 4; what++) {
                add(told, x.told(square, what));
            }
        }
    }

    private static void numbers(IceByEar x, StringBuilder told) {
        for (int what = 0; what <= 4; what++) {
            add(told, x.count(what));
        }
        for (int what = 0; what <= 3; what++) {
            add(told, x.breaks(what));
        }
        add(told, x.set(0, 0));
        add(told, x.set(1, 0));
        for (int hearer = 0; hearer < 4; hearer++) {
            add(told, x.slip(hearer, 0));
        }
    }

    /** By needs on a way to and fro, and by who breaks first where there is no ice. */
    private static void sleighs(IceByEar x, StringBuilder told) {
        int[] squares = new int[24];
        for (int i = 0; i < 24; i++) {
            squares[i] = i % 2;
        }
        Due.way(x, squares);
        for (int sleigh = 0; sleigh < 6; sleigh++) {
            for (int place = 0; place < 24; place++) {
                add(told, x.need(sleigh, place));
            }
        }
        for (int square = 0; square < 2; square++) {
            x.make(square, 0, 0);
            x.make(square, 4, 0);
        }
        add(told, x.breaks(0));
        add(told, x.breaks(2));
    }

    private static void spans(IceByEar x, StringBuilder told, int by) {
        for (int square = 0; square < 64; square++) {
            add(told, x.span(by, square, 0));
            add(told, x.span(by, square, 1));
        }
        add(told, x.drum());
        add(told, x.liars());
    }

    /** Slips of 99 and STEEP 99 open the spans, so that each square tells what was heard there. */
    private static void heard(IceByEar x, StringBuilder told, int by) {
        x.set(1, 99);
        for (int hearer = 0; hearer < 4; hearer++) {
            x.slip(hearer, 99);
        }
        spans(x, told, by);
    }

    /** The squares that a step could come to from the place tell its square. */
    private static void place(IceByEar x, StringBuilder told, int place) {
        int beyond = x.count(1) - 1 - place;
        if (beyond > 0) {
            x.back(beyond);
        }
        for (int square = 0; square < 64; square++) {
            int answer = x.step(square);
            if (answer != IceByEar.NOT) {
                add(told, square);
            }
            if (answer > 0) {
                x.back(1);
            }
        }
    }

    private static void tapeAsIce(IceByEar x, StringBuilder told) {
        add(told, x.type(' ', 1));
        add(told, x.ice());
        for (int square = 0; square < 64; square++) {
            add(told, x.told(square, 0));
            add(told, x.told(square, 1));
        }
        add(told, x.type(' ', 1));
    }

    private static void tapeAsSleighs(IceByEar x, StringBuilder told) {
        add(told, x.type(' ', 1));
        add(told, x.sleighs());
        add(told, x.count(0));
        sleighs(x, told);
        add(told, x.type(' ', 1));
    }

    /** Each item that is a square is gone to, and told by a sleigh that breaks in there. */
    private static void sheet(IceByEar x, StringBuilder told, int sheet) {
        for (int lane = 0; lane < 3; lane++) {
            add(told, x.item(sheet, lane, -1, 0));
        }
        Made.lake(x, '0');
        x.home();
        x.sleigh(1, 1, 0);
        for (int lane = 1; lane < 3; lane++) {
            for (int i = 0; i < 24; i++) {
                add(told, x.go(sheet, lane, i, 1));
                add(told, x.breaks(1));
            }
        }
        add(told, x.drop(sheet));
    }
}
