/** Counts the answers that are not the due ones, and ends a test with exit code 1 if there was one. */
final class Due {
    private final String test;
    private int asked = 0;
    private int wrong = 0;

    Due(String test) {
        this.test = test;
    }

    void is(String call, long got, long want) {
        asked++;
        if (got != want) {
            wrong++;
            System.out.println(test + ": " + call + " answered " + got + ", due is " + want);
        }
    }

    void holds(String what, boolean does) {
        is(what, does ? 1 : 0, 1);
    }

    boolean isWrong() {
        return wrong > 0;
    }

    void end() {
        System.out.println(test + ": " + asked + " answers, " + wrong + " not as due");
        if (asked == 0 || wrong > 0) {
            System.exit(1);
        }
    }

    /** Types a whole text, eight bytes a call: the last answer. */
    static int typed(IceByEar x, String text) {
        int answer = 0;
        for (int at = 0; at < text.length(); at += 8) {
            String part = text.substring(at, Math.min(at + 8, text.length()));
            answer = x.type(word(part), part.length());
        }
        return answer;
    }

    static long word(String part) {
        long w = 0;
        for (int i = 0; i < part.length(); i++) {
            w = w << 8 | part.charAt(i);
        }
        return w;
    }

    static int ice(IceByEar x, String text) {
        typed(x, text);
        return x.ice();
    }

    static int sleighs(IceByEar x, String text) {
        typed(x, text);
        return x.sleighs();
    }

    /** The way becomes these squares. */
    static void way(IceByEar x, int... squares) {
        int has = x.count(1);
        if (has > 0) {
            x.back(has);
        }
        for (int square : squares) {
            x.step(square);
        }
    }
}
