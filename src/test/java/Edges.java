import java.lang.reflect.InvocationTargetException;
import java.lang.reflect.Method;
import java.util.Arrays;
import java.util.Comparator;
import java.util.HashSet;
import java.util.IdentityHashMap;
import java.util.List;
import java.util.Map;
import java.util.Set;
import java.util.function.Consumer;
import java.util.function.ToLongFunction;

/**
 * Runs the edges of a test class. Each edge is a method without arguments whose name is p, the promise's number and the
 * case, as p12TwentyFiveStepsAreTooMany: a test of its own.
 */
final class Edges {
    /** A call with one number left open. */
    interface Open {
        long ask(IceByEar x, int v);
    }

    private static final Map<Consumer<IceByEar>, List<String>> BARE = new IdentityHashMap<>();
    private static String edge = "";
    private static int asked = 0;
    private static int wrong = 0;

    private Edges() {
    }

    /** Every promise named must have an edge, and every edge must ask something. */
    static void run(Class<?> tests, int... promises) {
        Method[] methods = tests.getDeclaredMethods();
        Arrays.sort(methods, Comparator.comparing(Method::getName));
        Set<Integer> seen = new HashSet<>();
        int edges = 0, failed = 0;
        for (Method method : methods) {
            if (!method.getName().matches("p\\d\\d[A-Z]\\w*")) {
                continue;
            }
            seen.add(Integer.valueOf(method.getName().substring(1, 3)));
            edges++;
            failed += holds(method) ? 0 : 1;
        }
        for (int promise : promises) {
            if (!seen.remove(promise)) {
                failed++;
                System.out.println(tests.getName() + " has no edge of promise " + promise);
            }
        }
        if (!seen.isEmpty()) {
            failed++;
            System.out.println(tests.getName() + " has edges of other promises: " + seen);
        }
        System.out.println(tests.getName() + ": " + edges + " edges, " + failed + " failed");
        if (failed > 0) {
            System.exit(1);
        }
    }

    private static boolean holds(Method method) {
        edge = method.getName();
        asked = 0;
        wrong = 0;
        try {
            method.invoke(null);
        } catch (InvocationTargetException e) {
            tell("threw " + e.getCause());
        } catch (IllegalAccessException e) {
            tell("can't be run");
        }
        if (asked == 0) {
            tell("asks nothing");
        }
        return wrong == 0;
    }

    private static void tell(String what) {
        wrong++;
        System.out.println(edge + ": " + what);
    }

    static void is(String what, long got, long want) {
        asked++;
        if (got != want) {
            tell(what + " answered " + got + ", due is " + want);
        }
    }

    static void isTaken(String what, long got) {
        asked++;
        if (got == IceByEar.BAD) {
            tell(what + " was refused");
        }
    }

    /** All that later calls tell is the same of both. */
    static void same(String what, Consumer<IceByEar> one, Consumer<IceByEar> other) {
        asked++;
        List<String> got = Bare.of(one);
        List<String> want = BARE.computeIfAbsent(other, Bare::of);
        for (int i = 0; i < Math.max(got.size(), want.size()); i++) {
            String is = i < got.size() ? got.get(i) : "nothing", due = i < want.size() ? want.get(i) : "nothing";
            if (!is.equals(due)) {
                tell(what + " shows " + is + "\n    due is " + due);
                return;
            }
        }
    }

    /** The call has this answer and changes nothing. */
    static void leaves(String what, Consumer<IceByEar> made, ToLongFunction<IceByEar> call, long want) {
        IceByEar x = new IceByEar();
        made.accept(x);
        is(what, call.applyAsLong(x), want);
        same(what, made.andThen(y -> call.applyAsLong(y)), made);
    }

    static void leaves(String what, ToLongFunction<IceByEar> call, long want) {
        leaves(what, Made.RICH, call, want);
    }

    /** The first numbers below and above, and the farthest ones, are BAD and change nothing. */
    static void isBadOutside(int least, int most, Open call) {
        for (int v : new int[] {least - 1, most + 1, Integer.MIN_VALUE, Integer.MAX_VALUE}) {
            leaves("by " + v, x -> call.ask(x, v), IceByEar.BAD);
        }
    }

    /** The last numbers on both sides are taken, the first ones beyond are BAD and change nothing. */
    static void takes(int least, int most, Open call) {
        for (int v : new int[] {least, most}) {
            IceByEar x = new IceByEar();
            Made.RICH.accept(x);
            isTaken("by " + v, call.ask(x, v));
        }
        isBadOutside(least, most, call);
    }
}
