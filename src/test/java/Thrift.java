import java.lang.management.ManagementFactory;

/** How much the calls make: all of one run live in one room, so asking makes nothing and telling little. */
public final class Thrift {
    private static final String FARM = "field 4;field 3;field 2;field 9;field 5;field 6;sound 1 1 9;sound 2 2 8;"
        + "sound 3 3 7;sound 4 4 6;sound 5 5 5;sound 6 6 9;cross 4;";

    private static final com.sun.management.ThreadMXBean THREADS =
        (com.sun.management.ThreadMXBean) ManagementFactory.getThreadMXBean();

    private Thrift() {
    }

    private static long made() {
        return THREADS.getCurrentThreadAllocatedBytes();
    }

    private static int askAll(NoiseFields x) {
        int sum = x.told(3) + x.field(1, 4) + x.sound(1, 3) + x.yields(2, 2) + x.would(1, 1, 1, 1, 1, 1) + x.loud(3);
        sum += x.drowned() + x.ahead(0) + x.best(0) + x.turnsOf(2, 5, 0) + x.sets(123456, 0) + x.crossing(3, 4);
        sum += x.generation(5) + (int) x.rows(3) + x.stable() + x.heard(0) + x.sure(0) + x.ear(0) + x.against(1, 0);
        sum += x.keeps(0, 4) + x.blight(1, 5, 20, 0) + x.span(1, 20, 5, 20, 0) + x.sums(0) + x.status(0) + x.count(0);
        return sum + x.fault() + x.feed(0, 0, 0, 0, 0);
    }

    private static void below(String what, long bytes, long most) {
        System.out.println(what + " made " + bytes + " bytes");
        Check.due(what + " makes fewer than " + most, bytes < most ? 1 : 0, 1);
    }

    private static long[] measure() {
        long[] at = new long[8];
        at[0] = made();
        NoiseFields x = new NoiseFields();
        at[1] = made() - at[0];
        Check.farm(x, FARM);
        Check.work(x, "sow 0 1;sow 1 2;sow 2 3;sow 3 4;sow 4 5;sow 5 0;year;");
        Check.book(x, "5 400;");
        at[0] = made();
        askAll(x);
        at[2] = made() - at[0];
        at[0] = made();
        x.image();
        x.restore();
        at[3] = made() - at[0];
        at[0] = made();
        x.work(0);
        at[4] = made() - at[0];
        at[0] = made();
        x.farm(0);
        at[5] = made() - at[0];
        at[0] = made();
        x.law(0);
        x.book(0);
        at[6] = made() - at[0];
        return at;
    }

    public static void main(String[] args) {
        // The first round loads classes, which makes objects of its own.
        measure();
        long[] at = measure();
        below("a new object", at[1], 100000);
        below("asking all", at[2], 100);
        below("an image", at[3], 2000);
        below("a work", at[4], 1000);
        below("a farm", at[5], 2000);
        below("a law and a book", at[6], 100);
        Check.end("Thrift");
    }
}
