import java.util.function.Consumer;

/** The edges of promises 28 and 29: image, restore. */
public final class EdgeImageTest {
    private static final int NONE = IceByEar.NONE;

    /** All that an image keeps becomes other than in FILLED; the tape and the sheets stay. */
    private static final Consumer<IceByEar> CLEARED = x -> {
        x.home();
        x.back(24);
        x.deaf();
        x.days(9, 30);
        x.make(0, 0, 0);
        for (int what = 1; what <= 4; what++) {
            x.make(63, what, 1);
        }
        x.set(0, 0);
        x.set(1, 0);
        for (int hearer = 0; hearer < 4; hearer++) {
            x.slip(hearer, 99);
        }
    };

    /** All that an image keeps becomes other than in FILLED, and as much of it as there may be. */
    private static final Consumer<IceByEar> REFILLED = CLEARED.andThen(x -> {
        for (int sleigh = 0; sleigh < 6; sleigh++) {
            x.sleigh(50 + sleigh, 9 - sleigh, 99 - sleigh);
        }
        for (int i = 0; i < 24; i++) {
            x.step(63 - Made.winding(i));
        }
        for (int i = 0; i < 16; i++) {
            x.hear(3 - i % 4, 63 - 3 * i, 180);
        }
    });

    public static void main(String[] args) {
        Edges.run(EdgeImageTest.class, 28, 29);
    }

    // ---- promise 28: image

    static void p28Answers1EachTime() {
        IceByEar x = new IceByEar();
        Edges.is("the first", x.image(), 1);
        Edges.is("the second", x.image(), 1);
        Made.FILLED.accept(x);
        Edges.is("of what is full", x.image(), 1);
    }

    static void p28OfANewObjectIsAsAtFirst() {
        Edges.same("restored", x -> {
            x.image();
            x.sleigh(1, 1, 1);
            x.step(0);
            x.hear(0, 0, 300);
            CLEARED.accept(x);
            x.restore();
        }, x -> x.image());
    }

    static void p28TheLastOneIsKept() {
        IceByEar x = new IceByEar();
        for (int thickness = 1; thickness <= 3; thickness++) {
            x.make(0, 0, thickness);
            x.image();
        }
        x.make(0, 0, 50);
        x.restore();
        Edges.is("the third", x.told(0, 0), 3);
    }

    static void p28ChangesNothingButTheImage() {
        Edges.same("image", x -> {
            Made.FILLED.accept(x);
            x.image();
        }, Made.FILLED);
    }

    static void p28WhatChangesThenIsNotOfTheImage() {
        Edges.same("cleared, restored", Made.FILLED.andThen(CLEARED).andThen(x -> x.restore()), Made.FILLED);
        Edges.same("refilled, restored", Made.FILLED.andThen(REFILLED).andThen(x -> x.restore()), Made.FILLED);
    }

    // ---- promise 29: restore

    static void p29WithoutAnImageNone() {
        Edges.leaves("of a new object", Made.NEW, x -> x.restore(), NONE);
        Edges.leaves("of a changed one", Made.CHANGED, x -> x.restore(), NONE);
    }

    static void p29WithoutAnImageNoneAgainThen1() {
        IceByEar x = new IceByEar();
        Edges.is("none", x.restore(), NONE);
        Edges.is("none again", x.restore(), NONE);
        x.image();
        Edges.is("then", x.restore(), 1);
    }

    static void p29TheImageStaysWhenItIsRestored() {
        Edges.same("the second time", Made.FILLED.andThen(CLEARED).andThen(x -> x.restore()).andThen(REFILLED)
            .andThen(x -> x.restore()), Made.FILLED);
        IceByEar x = new IceByEar();
        x.image();
        for (int i = 0; i < 3; i++) {
            Edges.is("time " + i, x.restore(), 1);
        }
    }

    static void p29WhatIsRestoredIsNoOtherNameOfTheImage() {
        IceByEar x = new IceByEar();
        x.image();
        x.restore();
        x.make(0, 0, 50);
        x.set(0, 7);
        x.slip(0, 7);
        x.restore();
        Edges.is("thickness", x.told(0, 0), 30);
        Edges.is("THE CRACK", x.set(0, 0), 20);
        Edges.is("slip", x.slip(0, 0), 0);
    }

    static void p29FullComesBackFromEmptyAndEmptyFromFull() {
        IceByEar x = new IceByEar();
        Made.FILLED.accept(x);
        CLEARED.accept(x);
        for (int what = 0; what <= 2; what++) {
            Edges.is("none of " + what, x.count(what), 0);
        }
        x.restore();
        int[] full = {6, 24, 16};
        for (int what = 0; what <= 2; what++) {
            Edges.is("all of " + what, x.count(what), full[what]);
        }
        Edges.is("no seventh sleigh", x.sleigh(1, 1, 1), IceByEar.FULL);
        CLEARED.accept(x);
        x.image();
        for (int i = 0; i < 24; i++) {
            x.sleigh(1, 1, 1);
            x.step(i % 2);
            x.hear(0, 0, 300);
        }
        x.restore();
        for (int what = 0; what <= 2; what++) {
            Edges.is("none of " + what + " again", x.count(what), 0);
        }
    }

    static void p29TheTapeStays() {
        IceByEar x = new IceByEar();
        Due.typed(x, "55");
        x.image();
        Due.typed(x, "6");
        x.restore();
        Edges.is("what was typed since then is there", x.type('7', 1), 4);
        x.image();
        Edges.is("four", x.ice(), 4);
        x.restore();
        Edges.is("what was read does not come back", x.type('7', 1), 1);
        Edges.is("but the ice does", x.told(2, 0), 30);
    }

    static void p29SheetsStay() {
        Consumer<IceByEar> sheets = x -> {
            Made.sheet(x, 0, 2, 0);
            Made.sheet(x, 1, 1, 24, 40, 41);
            x.item(3, 1, 1, 60);
            x.drop(2);
        };
        Edges.same("sheets", Made.FILLED.andThen(CLEARED).andThen(sheets).andThen(x -> x.restore()),
            Made.FILLED.andThen(sheets));
    }

    static void p29ByAWayOfTheImageStepsGoOn() {
        IceByEar x = new IceByEar();
        Due.way(x, 0, 1, 2);
        x.image();
        Due.way(x, 63);
        x.restore();
        Edges.is("next to 63", x.step(62), IceByEar.NOT);
        Edges.is("next to 2", x.step(10), 4);
    }
}
