import java.lang.management.ManagementFactory;

/** No call makes an object, and a new object is small: many runs find room together. */
public final class RoomTest {
    private static final int OBJECTS = 200, ROUNDS = 12;
    private static final Due DUE = new Due("RoomTest");
    private static final com.sun.management.ThreadMXBean ROOM =
        (com.sun.management.ThreadMXBean) ManagementFactory.getThreadMXBean();
    private static long sum = 0;

    public static void main(String[] args) {
        callAll(new IceByEar());
        made();
        long calls = 0;
        for (int i = 0; i < OBJECTS; i++) {
            calls += madeByCalls(new IceByEar());
        }
        DUE.holds("calls made " + calls + " bytes on " + OBJECTS + " objects", calls < OBJECTS * ROUNDS);
        long before = made();
        sum += new IceByEar().count(0);
        long one = made() - before;
        DUE.holds("a new object has " + one + " bytes", one < 16000);
        DUE.holds("answers were used", sum != 0);
        DUE.end();
    }

    /** No more rounds than an object has calls. */
    private static long madeByCalls(IceByEar x) {
        long before = made();
        for (int i = 0; i < ROUNDS; i++) {
            callAll(x);
        }
        return made() - before;
    }

    private static long made() {
        return ROOM.getThreadAllocatedBytes(Thread.currentThread().getId());
    }

    private static void callAll(IceByEar x) {
        sum += x.make(0, 0, 40) + x.told(0, 5) + x.days(5, 2) + x.set(0, 20) + x.type(0x31703135L, 4) + x.ice();
        sum += x.type(0x31703135L, 3) + x.sleighs() + x.count(4) + x.sleigh(5, 5, 5) + x.home() + x.sleigh(99, 9, 0);
        sum += x.step(0) + x.step(1) + x.need(0, 0) + x.breaks(3) + x.cracks(0) + x.crack(9) + x.back(1);
        sum += x.road(0, 63, 20, 2, 5) + x.most(0, 63, 3) + x.planks(0, 63, 99, 9) + x.slip(0, 3);
        sum += x.hear(0, 0, 300) + x.hear(1, 0, 400) + x.span(3, 5, 1) + x.safe(0, 9, 5, 5) + x.drum() + x.liars();
        sum += x.deaf() + x.image() + x.restore() + x.sheet(0, 0, 24) + x.film(1, 0, 3) + x.item(0, 0, 2, 7);
        sum += x.sheet(1, 1, 24) + x.go(1, 1, 0, 1) + x.drop(1);
    }
}
