import com.sun.management.ThreadMXBean;
import java.lang.management.ManagementFactory;
import java.util.function.ToLongFunction;

/**
 * All calls of a run live in one room: no call makes more than a handful of objects, so that 512 of the dearest are far
 * below it. Works make most: the state that can be undone. All else is made once, with the object.
 */
public final class RoomTest {
    private static final int CALLS = 400;
    /** The room holds 7.3 million fields and elements, each a byte at least: of it the calls of one kind may take so much. */
    private static final long MOST_BYTES = 600_000;
    private static final long BYTES_OF_ONE_OBJECT = 20_000;

    private int wrong;
    private long sum;

    public static void main(String[] args) {
        RoomTest test = new RoomTest();
        String pictures = "picture 1 2 30 63 5;".repeat(16);
        test.measure("new objects", pictures, x -> new SummerPictures().told(0), CALLS * BYTES_OF_ONE_OBJECT);
        test.measure("feeds", pictures, x -> x.feed(0, 0, 0, 0, 0), 0);
        test.measure("summers", pictures, x -> x.summer(0), MOST_BYTES);
        test.measure("laws, clocks, with and without a fault", pictures, x -> x.law(0) + x.clocks(0), 0);
        test.measure("works", pictures, x -> x.work(0) + x.undo(), MOST_BYTES);
        test.measure("images", pictures, x -> x.image() + x.restore(), 0);
        test.measure("books", pictures + "size 8;", x -> x.books(2) + x.cost(0), 0);
        test.measure("swaps, heaps", pictures, x -> x.swap(7, 2) + x.heaps(0) + x.doubles(0), 0);
        test.measure("orders", pictures, x -> x.order(63) + x.ordered(63, 5), 0);
        test.measure("seeds", pictures, x -> x.goesOn(5, 60, 9, 9, 3) + x.span(5, 20, 60, 9, 9, 0, 0), 0);
        test.measure("odds", pictures, x -> x.line(12, 4, 0) + x.often(9, 11, 1) + x.eyes(3, 15, 5, 0), 0);
        test.measure("clocks", pictures, x -> x.off(10, 3) + x.bestOff(), 0);
        System.out.println("RoomTest: " + (test.wrong == 0 ? "all as due" : test.wrong + " wrong"));
        if (test.wrong != 0) {
            System.exit(1);
        }
    }

    private void measure(String name, String summer, ToLongFunction<SummerPictures> call, long most) {
        SummerPictures x = new SummerPictures();
        Check.summer(x, summer);
        ThreadMXBean threads = (ThreadMXBean) ManagementFactory.getThreadMXBean();
        // Once ahead, so that what the machine loads for the call, and for measuring, is not counted.
        sum += call.applyAsLong(x) + threads.getCurrentThreadAllocatedBytes();
        long before = threads.getCurrentThreadAllocatedBytes();
        for (int i = 0; i < CALLS; i++) {
            sum += call.applyAsLong(x);
        }
        long used = threads.getCurrentThreadAllocatedBytes() - before;
        // The machine's own work may show as a few bytes; anything that each call makes is more.
        if (used > Math.max(most, 8 * CALLS - 1)) {
            wrong++;
            System.out.println(name + " take " + used + " bytes, due are " + most + " at most");
        }
    }
}
