import java.util.ArrayList;
import java.util.List;
import java.util.Random;

/**
 * Runs of drawn calls (always the same ones), each answered by IceByEar as by PlainIce: from an object's first call to its
 * 512th, and no more, as what later calls answer is free.
 */
public final class ModelTest {
    private static final int RUNS = 400, CALLS = 512;
    /** As many calls as it takes to type and read the longest text. */
    private static final int CALLS_OF_A_TEXT = 20;
    private static final Due DUE = new Due("ModelTest");

    private final Random drawn;
    private final IceByEar x = new IceByEar();
    private final PlainIce plain = new PlainIce();
    private int last = 0;

    private ModelTest(int seed) {
        drawn = new Random(seed);
    }

    public static void main(String[] args) {
        for (int run = 0; run < RUNS && !DUE.isWrong(); run++) {
            new ModelTest(run).run();
        }
        DUE.end();
    }

    private void run() {
        List<String> told = new ArrayList<>();
        while (told.size() < CALLS && !DUE.isWrong()) {
            call(told);
        }
        if (DUE.isWrong()) {
            System.out.println("behind " + told);
        }
        DUE.is("calls of a run", told.size(), CALLS);
    }

    private int in(int least, int most) {
        int odd = drawn.nextInt(400);
        if (odd < 4) {
            return odd < 2 ? most + 1 + drawn.nextInt(2) : least - 1 - drawn.nextInt(2);
        }
        if (odd == 4) {
            return drawn.nextBoolean() ? Integer.MAX_VALUE : Integer.MIN_VALUE;
        }
        return least + drawn.nextInt(most - least + 1);
    }

    private int square() {
        return in(0, 63);
    }

    /** Near the last one told, so that ways come to be. */
    private int nearSquare() {
        int[] sides = {-8, -1, 1, 8};
        last = drawn.nextInt(6) == 0 ? square() : last + sides[drawn.nextInt(4)];
        return last;
    }

    private int thickness() {
        int odd = drawn.nextInt(4);
        return odd == 0 ? in(0, 99) : odd == 1 ? in(0, 25) : in(20, 60);
    }

    private int pitch() {
        int t = 20 + drawn.nextInt(30);
        return drawn.nextInt(5) == 0 ? in(90, 9999) : 9000 / t + 7 * drawn.nextInt(5) + drawn.nextInt(5) - 2;
    }

    private String iceText() {
        StringBuilder text = new StringBuilder();
        int rows = 1 + drawn.nextInt(8);
        for (int row = 0; row < rows; row++) {
            text.append(row == 0 ? "" : "/");
            int squares = 1 + drawn.nextInt(8);
            for (int i = 0; i < squares; i++) {
                text.append((char) ('0' + drawn.nextInt(10)));
                text.append(drawn.nextInt(4) == 0 ? "lcoe".substring(drawn.nextInt(4)).substring(0, 1) : "");
            }
        }
        return spoilt(text);
    }

    private String sleighText() {
        StringBuilder text = new StringBuilder();
        int many = 1 + drawn.nextInt(6);
        for (int i = 0; i < many; i++) {
            text.append(i == 0 ? "" : ",").append(in(1, 99)).append('p').append(in(1, 9));
            text.append(drawn.nextBoolean() ? "m" + in(0, 20) : "");
        }
        return spoilt(text);
    }

    private String spoilt(StringBuilder text) {
        String odd = "0123456789lcoepm,/ x~";
        int blanks = drawn.nextInt(3);
        for (int i = 0; i < blanks; i++) {
            text.insert(drawn.nextInt(text.length() + 1), ' ');
        }
        int how = drawn.nextInt(12);
        if (how < 4) {
            text.insert(drawn.nextInt(text.length() + 1), odd.charAt(drawn.nextInt(odd.length())));
        } else if (how < 6) {
            text.setCharAt(drawn.nextInt(text.length()), odd.charAt(drawn.nextInt(odd.length())));
        } else if (how == 6) {
            text.deleteCharAt(drawn.nextInt(text.length()));
        }
        return text.toString();
    }

    private void type(List<String> told, String text) {
        for (int at = 0; at < text.length(); at += 8) {
            String part = text.substring(at, Math.min(at + 8, text.length()));
            due(told, "type '" + part + "'", x.type(Due.word(part), part.length()),
                plain.type(Due.word(part), part.length()));
        }
    }

    private void due(List<String> told, String call, long got, long want) {
        told.add(call);
        DUE.is(call, got, want);
    }

    private void call(List<String> told) {
        int which = drawn.nextInt(50);
        if (which < 17) {
            callOfIce(told, which);
        } else if (which < 34) {
            callOfSleighs(told, which - 17);
        } else if (which < 44) {
            callOfHearers(told, which - 34);
        } else {
            callOfSheets(told, which - 44);
        }
    }

    private void callOfIce(List<String> told, int which) {
        int a = square(), b = in(0, 6), c;
        switch (which) {
            case 0: case 1: case 2: case 3:
                c = thickness();
                due(told, "make(" + a + ", 0, " + c + ")", x.make(a, 0, c), plain.make(a, 0, c));
                break;
            case 4: case 5: case 6:
                b = in(0, 4);
                c = in(0, b == 1 ? 4 : b == 2 ? 9 : b == 3 ? 1 : b == 4 ? 3 : 99);
                due(told, "make(" + a + ", " + b + ", " + c + ")", x.make(a, b, c), plain.make(a, b, c));
                break;
            case 7: case 8: case 9:
                due(told, "told(" + a + ", " + b + ")", x.told(a, b), plain.told(a, b));
                break;
            case 10:
                b = in(0, 9);
                c = drawn.nextInt(4) == 0 ? in(1, 30) : 1;
                due(told, "days(" + b + ", " + c + ")", x.days(b, c), plain.days(b, c));
                break;
            case 11:
                b = in(0, 1);
                c = drawn.nextInt(3) == 0 ? in(0, 99) : in(5, 30);
                due(told, "set(" + b + ", " + c + ")", x.set(b, c), plain.set(b, c));
                break;
            case 12:
                if (drawn.nextInt(3) == 0 && told.size() + CALLS_OF_A_TEXT <= CALLS) {
                    type(told, iceText());
                    due(told, "ice()", x.ice(), plain.ice());
                }
                break;
            case 13: case 14:
                if (told.size() + CALLS_OF_A_TEXT <= CALLS) {
                    type(told, sleighText());
                    due(told, "sleighs()", x.sleighs(), plain.sleighs());
                }
                break;
            case 15:
                long w = drawn.nextLong() & 0x7F7F7F7F7F7F7F7FL | 0x2020202020202020L;
                b = in(1, 8);
                due(told, "type(" + w + ", " + b + ")", x.type(w, b), plain.type(w, b));
                break;
            default:
                due(told, "count(" + b + ")", x.count(b), plain.count(b));
        }
    }

    private void callOfSleighs(List<String> told, int which) {
        int a = square(), b = square(), load = in(1, 99), pace = in(1, 9), i = in(-1, 10);
        switch (which) {
            case 0:
                int start = in(0, 99);
                due(told, "sleigh(" + load + ", " + pace + ", " + start + ")", x.sleigh(load, pace, start),
                    plain.sleigh(load, pace, start));
                break;
            case 1:
                if (drawn.nextInt(6) == 0) {
                    due(told, "home()", x.home(), plain.home());
                }
                break;
            case 2: case 3: case 4: case 5: case 6:
                a = nearSquare();
                due(told, "step(" + a + ")", x.step(a), plain.step(a));
                break;
            case 7:
                a = drawn.nextInt(3) == 0 ? in(1, 24) : 1;
                due(told, "back(" + a + ")", x.back(a), plain.back(a));
                break;
            case 8: case 9:
                a = in(0, 5);
                b = in(0, 12);
                due(told, "need(" + a + ", " + b + ")", x.need(a, b), plain.need(a, b));
                break;
            case 10: case 11:
                a = in(0, 3);
                due(told, "breaks(" + a + ")", x.breaks(a), plain.breaks(a));
                break;
            case 12:
                due(told, "cracks(" + a + ")", x.cracks(a), plain.cracks(a));
                break;
            case 13:
                if (drawn.nextInt(3) == 0) {
                    due(told, "crack(" + a + ")", x.crack(a), plain.crack(a));
                }
                break;
            case 14:
                due(told, "road(" + a + ", " + b + ", " + load / 3 + ", " + pace + ", " + i + ")",
                    x.road(a, b, load / 3, pace, i), plain.road(a, b, load / 3, pace, i));
                break;
            case 15:
                due(told, "most(" + a + ", " + b + ", " + pace + ")", x.most(a, b, pace), plain.most(a, b, pace));
                break;
            default:
                due(told, "planks(" + a + ", " + b + ", " + load + ", " + pace + ")", x.planks(a, b, load, pace),
                    plain.planks(a, b, load, pace));
        }
    }

    private void callOfHearers(List<String> told, int which) {
        int a = in(0, 3), b = square(), c;
        switch (which) {
            case 0:
                c = in(0, 99);
                due(told, "slip(" + a + ", " + c + ")", x.slip(a, c), plain.slip(a, c));
                break;
            case 1: case 2:
                c = pitch();
                due(told, "hear(" + a + ", " + b + ", " + c + ")", x.hear(a, b, c), plain.hear(a, b, c));
                break;
            case 3:
                if (drawn.nextInt(8) == 0) {
                    due(told, "deaf()", x.deaf(), plain.deaf());
                }
                break;
            case 4: case 5:
                a = in(0, 15);
                c = in(0, 1);
                due(told, "span(" + a + ", " + b + ", " + c + ")", x.span(a, b, c), plain.span(a, b, c));
                break;
            case 6:
                a = square();
                c = in(1, 20);
                due(told, "safe(" + a + ", " + b + ", " + c + ", 2)", x.safe(a, b, c, 2), plain.safe(a, b, c, 2));
                break;
            case 7:
                due(told, "drum()", x.drum(), plain.drum());
                break;
            case 8:
                due(told, "liars()", x.liars(), plain.liars());
                break;
            default:
                if (drawn.nextInt(3) == 0) {
                    due(told, "image()", x.image(), plain.image());
                } else {
                    due(told, "restore()", x.restore(), plain.restore());
                }
        }
    }

    private void callOfSheets(List<String> told, int which) {
        int a = in(0, 3), b = drawn.nextInt(8) == 0 ? in(0, 2) : Math.floorMod(a, 3), c = in(0, 8), d = in(1, 5);
        switch (which) {
            case 0:
                due(told, "go(" + a + ", " + b + ", " + c + ", " + d + ")", x.go(a, b, c, d), plain.go(a, b, c, d));
                break;
            case 1:
                d = in(0, 7);
                due(told, "film(" + d + ", " + a + ", " + c + ")", x.film(d, a, c), plain.film(d, a, c));
                break;
            case 2:
                c = in(0, 24);
                due(told, "sheet(" + a + ", " + b + ", " + c + ")", x.sheet(a, b, c), plain.sheet(a, b, c));
                break;
            case 3:
                if (drawn.nextInt(4) == 0) {
                    due(told, "drop(" + a + ")", x.drop(a), plain.drop(a));
                }
                break;
            default:
                long v = nearSquare() + (drawn.nextInt(4) == 0 ? 256L : 0L);
                due(told, "item(" + a + ", " + b + ", " + c + ", " + v + ")", x.item(a, b, c, v),
                    plain.item(a, b, c, v));
        }
    }
}
