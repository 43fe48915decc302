/** Promises 21 to 27: slip, hear, deaf, span, safe, drum, liars. */
public final class HearerTest {
    private static final int BAD = IceByEar.BAD, NOT = IceByEar.NOT, FULL = IceByEar.FULL, NONE = IceByEar.NONE;
    private static final Due DUE = new Due("HearerTest");

    public static void main(String[] args) {
        slip();
        hear();
        deaf();
        spanRefuses();
        spanFits();
        spanByKind();
        spanOfAllPitches();
        spanNarrows();
        spanNone();
        safe();
        drum();
        liars();
        DUE.end();
    }

    private static void slip() {
        IceByEar x = new IceByEar();
        DUE.is("slip", x.slip(3, 99), 0);
        DUE.is("slip was", x.slip(3, 0), 99);
        DUE.is("hearer -1", x.slip(-1, 0), BAD);
        DUE.is("hearer 4", x.slip(4, 0), BAD);
        DUE.is("slip -1", x.slip(3, -1), BAD);
        DUE.is("slip 100", x.slip(3, 100), BAD);
        DUE.is("nothing slipped", x.slip(3, 5), 0);
    }

    private static void hear() {
        IceByEar x = new IceByEar();
        int[][] bad = {{-1, 0, 90}, {4, 0, 90}, {0, -1, 90}, {0, 64, 90}, {0, 0, 89}, {0, 0, 10000}};
        for (int[] b : bad) {
            DUE.is("bad to hear", x.hear(b[0], b[1], b[2]), BAD);
        }
        DUE.is("none heard", x.count(2), 0);
        DUE.is("the least", x.hear(0, 0, 90), 1);
        DUE.is("the greatest", x.hear(3, 63, 9999), 2);
        for (int i = 3; i <= 16; i++) {
            DUE.is("one more", x.hear(0, 0, 90), i);
        }
        DUE.is("16 are enough", x.hear(0, 0, 90), FULL);
        DUE.is("bad is told first", x.hear(0, 0, 89), BAD);
    }

    private static void deaf() {
        IceByEar x = new IceByEar();
        DUE.is("nothing yet", x.deaf(), 0);
        x.slip(0, 7);
        x.hear(0, 0, 300);
        x.hear(0, 0, 500);
        DUE.is("two", x.deaf(), 2);
        DUE.is("none", x.count(2), 0);
        DUE.is("spans are wide again", x.span(15, 0, 1), 99);
        DUE.is("slips stay", x.slip(0, 7), 7);
    }

    private static void spanRefuses() {
        IceByEar x = new IceByEar();
        int[][] bad = {{-1, 0, 0}, {16, 0, 0}, {15, -1, 0}, {15, 64, 0}, {15, 0, -1}, {15, 0, 2}};
        x.hear(0, 0, 9999);
        for (int[] b : bad) {
            DUE.is("a bad span", x.span(b[0], b[1], b[2]), BAD);
        }
        DUE.is("nothing fits", x.span(15, 0, 0), NONE);
        DUE.is("nothing fits elsewhere", x.span(15, 63, 1), NONE);
        DUE.is("without that one", x.span(14, 0, 1), 99);
        DUE.is("by nobody", x.span(0, 0, 0), 1);
    }

    private static void spanFits() {
        IceByEar x = new IceByEar();
        x.set(1, 99);
        x.hear(1, 5, 300);
        span(x, 15, 5, 30, 30);
        x.slip(1, 10);
        span(x, 15, 5, 29, 31);
        x.slip(1, 99);
        span(x, 15, 5, 23, 44);
        span(x, 13, 5, 1, 99);
        x.hear(2, 5, 250);
        span(x, 15, 5, 36, 36);
        span(x, 11, 5, 23, 44);
        x.slip(2, 30);
        span(x, 15, 5, 33, 40);
        x.make(5, 0, 77);
        span(x, 15, 5, 33, 40);
    }

    private static void span(IceByEar x, int set, int square, int least, int greatest) {
        DUE.is("least of " + square + " by " + set, x.span(set, square, 0), least);
        DUE.is("greatest of " + square + " by " + set, x.span(set, square, 1), greatest);
    }

    private static void spanByKind() {
        IceByEar x = new IceByEar();
        x.set(1, 99);
        x.hear(0, 0, 300);
        x.make(0, 1, 4);
        span(x, 15, 0, 33, 33);
        x.make(0, 1, 1);
        DUE.is("293 is no pitch of ice", x.span(15, 0, 0), NONE);
        x.slip(0, 3);
        span(x, 15, 0, 31, 31);
    }

    /** Every pitch and some slips, against thickness by thickness. */
    private static void spanOfAllPitches() {
        for (int kind = 0; kind <= 4; kind++) {
            for (int pitch = 90; pitch <= 9999; pitch += pitch < 400 ? 1 : 37) {
                IceByEar x = new IceByEar();
                x.set(1, 99);
                x.make(0, 1, kind);
                for (int slip = 0; slip <= 99; slip += 33) {
                    x.deaf();
                    x.slip(0, slip);
                    x.hear(0, 0, pitch);
                    int least = NONE, greatest = NONE;
                    for (int t = 1; t <= 99; t++) {
                        if (Math.abs(9000 / t + 7 * kind - pitch) <= slip) {
                            least = least == NONE ? t : least;
                            greatest = t;
                        }
                    }
                    span(x, 1, 0, least, greatest);
                }
            }
        }
    }

    private static void spanNarrows() {
        IceByEar x = new IceByEar();
        x.hear(0, 27, 180);
        for (int square = 0; square < 64; square++) {
            int far = Math.abs(square / 8 - 3) + Math.abs(square % 8 - 3);
            span(x, 15, square, Math.max(1, 50 - 10 * far), Math.min(99, 50 + 10 * far));
        }
        x.set(1, 0);
        span(x, 15, 63, 50, 50);
        span(x, 15, 0, 50, 50);
        x.set(1, 99);
        span(x, 15, 28, 1, 99);
        x.set(1, 3);
        x.hear(1, 7, 150);
        span(x, 15, 7, 60, 60);
        span(x, 15, 3, 48, 59);
        span(x, 1, 7, 29, 71);
    }

    private static void spanNone() {
        IceByEar x = new IceByEar();
        x.hear(0, 0, 900);
        x.hear(1, 1, 450);
        span(x, 15, 0, 10, 10);
        x.set(1, 9);
        DUE.is("too steep", x.span(15, 0, 0), NONE);
        DUE.is("too steep somewhere", x.span(15, 63, 0), NONE);
        span(x, 1, 1, 1, 19);
        x.deaf();
        x.hear(0, 0, 900);
        x.hear(0, 63, 90);
        x.set(1, 7);
        span(x, 15, 63, 99, 99);
        x.set(1, 6);
        DUE.is("too steep from afar", x.span(15, 5, 0), NONE);
    }

    private static void safe() {
        IceByEar x = new IceByEar();
        int[][] bad = {{-1, 0, 1, 1}, {64, 0, 1, 1}, {0, -1, 1, 1}, {0, 64, 1, 1}, {0, 0, 0, 1}, {0, 0, 100, 1},
            {0, 0, 1, 0}, {0, 0, 1, 10}};
        for (int[] b : bad) {
            DUE.is("bad to be safe", x.safe(b[0], b[1], b[2], b[3]), BAD);
        }
        DUE.is("nothing is known", x.safe(0, 1, 1, 1), NONE);
        x.hear(0, 0, 180);
        DUE.is("the least of 1 is 40", x.safe(0, 1, 99, 6), 2);
        DUE.is("by 160 and no more", x.safe(0, 1, 99, 7), NONE);
        DUE.is("there itself", x.safe(0, 0, 99, 9), 1);
        x.make(1, 1, 3);
        DUE.is("by kinds as they are", x.safe(0, 1, 99, 6), NONE);
        x.make(1, 4, 2);
        DUE.is("by planks as they are", x.safe(0, 1, 99, 6), 2);
        x.make(0, 0, 0);
        DUE.is("by no thickness that is there", x.safe(0, 1, 99, 6), 2);
        DUE.is("fewest squares", x.safe(0, 10, 9, 1), 4);
        x.hear(1, 1, 9000);
        DUE.is("no spans", x.safe(0, 0, 99, 9), NOT);
        DUE.is("bad is told first", x.safe(0, 0, 99, 10), BAD);
    }

    private static void drum() {
        IceByEar x = new IceByEar();
        DUE.is("all are alike", x.drum(), 0);
        x.hear(0, 0, 180);
        DUE.is("farther away", x.drum(), 5);
        x.set(1, 99);
        DUE.is("all but one are alike", x.drum(), 1);
        x.set(1, 3);
        DUE.is("farthest away", x.drum(), 63);
        x.hear(1, 63, 180);
        DUE.is("between", x.drum(), 7);
        x.hear(2, 1, 9000);
        DUE.is("no spans", x.drum(), NONE);
    }

    private static void liars() {
        IceByEar x = new IceByEar();
        DUE.is("nobody", x.liars(), 0);
        x.hear(2, 0, 9999);
        DUE.is("by himself", x.liars(), 4);
        x.deaf();
        x.hear(0, 0, 300);
        x.hear(1, 0, 450);
        DUE.is("one of two", x.liars(), NONE);
        x.hear(2, 0, 450);
        DUE.is("one against two", x.liars(), 1);
        x.hear(3, 0, 300);
        DUE.is("two against two", x.liars(), NONE);
        x.hear(3, 1, 9999);
        DUE.is("one lied anyhow", x.liars(), 9);
        x.deaf();
        for (int hearer = 0; hearer < 4; hearer++) {
            x.hear(hearer, hearer, 9999);
        }
        DUE.is("all", x.liars(), 15);
        x.deaf();
        x.hear(1, 10, 9000);
        x.hear(3, 0, 90);
        x.hear(0, 1, 90);
        DUE.is("by steepness", x.liars(), 2);
        x.set(1, 99);
        DUE.is("as steep as may be", x.liars(), 0);
    }
}
