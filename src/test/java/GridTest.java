import java.lang.reflect.InvocationTargetException;
import java.lang.reflect.Method;
import java.lang.reflect.Modifier;
import java.util.ArrayList;
import java.util.Arrays;
import java.util.HashMap;
import java.util.HashSet;
import java.util.List;
import java.util.Map;
import java.util.Set;

/**
 * Every call by all pairings of numbers at their bounds, on objects in three states, each answered by IceByEar as by
 * PlainIce: of several refusals the first, whichever numbers are wrong together.
 */
public final class GridTest {
    private static final Due DUE = new Due("GridTest");
    private static final Set<String> SEEN = new HashSet<>();
    private static final Map<String, Method> METHODS = new HashMap<>();
    private static final long LEAST = Integer.MIN_VALUE, MOST = Integer.MAX_VALUE;
    private static final long[] SQUARE = {-1, 0, 9, 20, 63, 64};
    private static final long[] LOAD = {0, 1, 50, 99, 100};
    private static final long[] PACE = {0, 1, 9, 10};
    private static final long[] HEARER = {LEAST, -1, 0, 3, 4, MOST};
    private static final long[] SHEET = {LEAST, -1, 0, 1, 2, 3, 4, MOST};
    private static final long[] LANE = {-1, 0, 1, 2, 3};
    private static final long[] FROM = {LEAST, -1, 0, 1, 2, 4, 5, 8, 9, 16, 17, 23, 24, MOST};

    private static final String CHANGED = "make 20 0 0;make 0 1 3;make 1 2 9;make 9 3 1;make 63 4 3;make 5 0 12;"
        + "set 0 25;set 1 15;slip 0 20;slip 3 5;hear 0 0 300;hear 3 1 310;sleigh 30 3 7;sleigh 50 9 7;sleigh 99 1 5;"
        + "step 9;step 10;step 18;type 13365 2;sheet 0 1 5;item 0 1 0 9;item 0 1 1 10;item 0 1 2 64;sheet 1 2 24;"
        + "item 1 2 0 63;item 1 2 1 62;item 1 2 23 -1;sheet 2 0 9;image";
    private static final String FILLED = CHANGED + ";sleigh 1 1 1;sleigh 2 2 2;sleigh 3 3 3;hear 1 1 9999"
        + ";hear 1 1 300".repeat(13) + ";step 10;step 18".repeat(10) + ";step 10"
        + ";type 2314885530818453536 8".repeat(17) + ";type 13365 2;make 0 0 99";
    private static final String[] STATES = {"", CHANGED, FILLED};

    public static void main(String[] args) throws ReflectiveOperationException {
        ice();
        sleighs();
        roads();
        hearers();
        sheets();
        Set<String> calls = new HashSet<>();
        for (Method method : IceByEar.class.getDeclaredMethods()) {
            if (Modifier.isPublic(method.getModifiers())) {
                calls.add(method.getName());
            }
        }
        DUE.holds("every call was made: " + SEEN, SEEN.equals(calls));
        DUE.end();
    }

    private static void ice() throws ReflectiveOperationException {
        long[] made = {LEAST, -1, 0, 1, 2, 3, 4, 5, 9, 10, 99, 100, MOST};
        grid("make", SQUARE, new long[] {LEAST, -1, 0, 1, 2, 3, 4, 5, MOST}, made);
        grid("told", SQUARE, new long[] {LEAST, -1, 0, 1, 2, 3, 4, 5, 6, 7, MOST});
        grid("days", new long[] {LEAST, -1, 0, 1, 9, 10, MOST}, new long[] {LEAST, -1, 0, 1, 2, 30, 31, MOST});
        grid("set", new long[] {LEAST, -1, 0, 1, 2, MOST}, new long[] {LEAST, -1, 0, 50, 99, 100, MOST});
        grid("type", new long[] {0, 31, 32, 53, 126, 127, -1, 0x3535353535353535L, 0x3535353535351F35L},
            new long[] {LEAST, -1, 0, 1, 2, 3, 7, 8, 9, MOST});
        grid("ice");
        grid("sleighs");
        grid("count", new long[] {LEAST, -1, 0, 1, 2, 3, 4, 5, MOST});
    }

    private static void sleighs() throws ReflectiveOperationException {
        grid("sleigh", new long[] {LEAST, -1, 0, 1, 99, 100, MOST}, new long[] {LEAST, 0, 1, 9, 10, MOST},
            new long[] {LEAST, -1, 0, 99, 100, MOST});
        grid("home");
        grid("step", new long[] {LEAST, -1, 0, 1, 2, 9, 10, 11, 17, 18, 19, 26, 63, 64, MOST});
        grid("back", new long[] {LEAST, -1, 0, 1, 2, 3, 4, 23, 24, 25, MOST});
        grid("need", new long[] {LEAST, -1, 0, 1, 2, 3, 5, 6, MOST}, new long[] {LEAST, -1, 0, 2, 3, 23, 24, MOST});
        grid("breaks", new long[] {LEAST, -1, 0, 1, 2, 3, 4, MOST});
        grid("cracks", new long[] {LEAST, -1, 0, 5, 20, 63, 64, MOST});
        grid("crack", new long[] {LEAST, -1, 0, 5, 20, 63, 64, MOST});
    }

    private static void roads() throws ReflectiveOperationException {
        grid("road", SQUARE, SQUARE, LOAD, PACE, new long[] {-2, -1, 0, 1, 63, 64});
        grid("most", SQUARE, SQUARE, new long[] {LEAST, -1, 0, 1, 5, 9, 10, MOST});
        grid("planks", SQUARE, SQUARE, LOAD, PACE);
        grid("safe", SQUARE, SQUARE, LOAD, PACE);
    }

    private static void hearers() throws ReflectiveOperationException {
        grid("slip", HEARER, new long[] {LEAST, -1, 0, 50, 99, 100, MOST});
        grid("hear", HEARER, SQUARE, new long[] {LEAST, 0, 89, 90, 300, 9999, 10000, MOST});
        grid("deaf");
        grid("span", new long[] {LEAST, -1, 0, 1, 8, 15, 16, MOST}, SQUARE, new long[] {LEAST, -1, 0, 1, 2, MOST});
        grid("drum");
        grid("liars");
        grid("image");
        grid("restore");
    }

    private static void sheets() throws ReflectiveOperationException {
        grid("go", SHEET, LANE, FROM, new long[] {-1, 0, 1, 2, 3, 5, 24, 25});
        grid("film", new long[] {LEAST, -1, 0, 7, 8, MOST}, SHEET, FROM);
        grid("sheet", SHEET, LANE, new long[] {LEAST, -1, 0, 1, 24, 25, MOST});
        grid("drop", SHEET);
        grid("item", SHEET, LANE, FROM, new long[] {Long.MIN_VALUE, -1, 0, 64, 256});
    }

    private static void grid(String call, long[]... numbers) throws ReflectiveOperationException {
        SEEN.add(call);
        for (String state : STATES) {
            int[] at = new int[numbers.length];
            boolean more = true;
            while (more) {
                long[] args = new long[numbers.length];
                for (int i = 0; i < args.length; i++) {
                    args[i] = numbers[i][at[i]];
                }
                compare(state, call, args);
                more = advance(at, numbers);
            }
        }
    }

    private static boolean advance(int[] at, long[][] numbers) {
        for (int i = 0; i < at.length; i++) {
            at[i]++;
            if (at[i] < numbers[i].length) {
                return true;
            }
            at[i] = 0;
        }
        return false;
    }

    private static void compare(String state, String call, long[] args) throws ReflectiveOperationException {
        IceByEar x = new IceByEar();
        PlainIce plain = new PlainIce();
        List<Long> is = new ArrayList<>(), due = new ArrayList<>();
        for (String one : state.isEmpty() ? new String[0] : state.split(";")) {
            String[] words = one.split(" ");
            long[] numbers = new long[words.length - 1];
            for (int i = 0; i < numbers.length; i++) {
                numbers[i] = Long.parseLong(words[i + 1]);
            }
            is.add(ask(x, words[0], numbers));
            due.add(ask(plain, words[0], numbers));
        }
        DUE.holds("making ready for " + call + " answers " + is + ", due is " + due, is.equals(due));
        String what = call + Arrays.toString(args) + " on '" + state + "'";
        DUE.is(what, ask(x, call, args), ask(plain, call, args));
        for (int count = 0; count <= 4; count++) {
            DUE.is("count(" + count + ") behind " + what, x.count(count), plain.count(count));
        }
        DUE.is("days behind " + what, x.days(1, 1), plain.days(1, 1));
    }

    private static long ask(Object whom, String call, long[] args) throws ReflectiveOperationException {
        Method method = METHODS.computeIfAbsent(whom.getClass().getName() + "." + call, key -> method(whom, call));
        Object[] given = new Object[args.length];
        for (int i = 0; i < args.length; i++) {
            boolean isLong = method.getParameterTypes()[i] == long.class;
            given[i] = isLong ? (Object) Long.valueOf(args[i]) : (Object) Integer.valueOf((int) args[i]);
        }
        try {
            return ((Number) method.invoke(whom, given)).longValue();
        } catch (InvocationTargetException e) {
            throw new IllegalStateException(call + Arrays.toString(args) + " threw " + e.getCause());
        }
    }

    private static Method method(Object whom, String call) {
        for (Method one : whom.getClass().getDeclaredMethods()) {
            if (one.getName().equals(call)) {
                return one;
            }
        }
        throw new IllegalStateException("no " + call);
    }
}
