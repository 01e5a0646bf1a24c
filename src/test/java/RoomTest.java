import com.sun.management.ThreadMXBean;
import java.lang.management.ManagementFactory;
import java.util.function.Consumer;

/**
 * All calls of a run live in one room of 600,000 objects with 7.3 million fields and elements: what
 * an object takes, and what 512 calls of it take, in bytes.
 */
public final class RoomTest {
    private static final int CALLS = 512;
    /** A run may make some objects, so one of them keeps far below the room. */
    private static final long NEW_OBJECT = 40_000;
    private static final long A_RUN = 200_000;
    /** What the machine itself takes now and then. */
    private static final long NOTHING = 2_000;
    private static final Check CHECK = new Check();
    private static final ThreadMXBean MEASURE = (ThreadMXBean) ManagementFactory.getThreadMXBean();
    private static final String[] DEAREST = {
        "house mood 1;class;class 0;class 0 1;class 2 1;class 3 4;",
        "house mood 1;class;class 0;says:" + "in+".repeat(280) + "in;",
        "house mood 1;class;class 0;" + "says:1;seen:1=1;".repeat(54),
    };

    public static void main(String[] args) {
        if (!MEASURE.isThreadAllocatedMemorySupported()) {
            System.out.println("this Java does not count what is made: nothing is looked at");
            return;
        }
        OrderMerge[] made = new OrderMerge[1];
        atMost("a new object", NEW_OBJECT, x -> made[0] = new OrderMerge());
        for (String text : DEAREST) {
            atMost("houses told again and again", A_RUN, x -> tellAgain(x, text));
        }
        atMost("deeds, images, undone", A_RUN, RoomTest::deeds);
        questions();
        CHECK.end();
    }

    private static void atMost(String what, long bound, Consumer<OrderMerge> run) {
        OrderMerge first = Check.told(Twins.HOUSE);
        run.accept(first);
        OrderMerge x = Check.told(Twins.HOUSE);
        long before = MEASURE.getThreadAllocatedBytes(Thread.currentThread().getId());
        run.accept(x);
        long taken = MEASURE.getThreadAllocatedBytes(Thread.currentThread().getId()) - before;
        CHECK.due(what + " took " + taken + " bytes, no more than " + bound, taken <= bound ? 1 : 0, 1);
    }

    private static void tellAgain(OrderMerge x, String text) {
        int calls = 0;
        int each = (text.length() + 19) / 20 + 1;
        while (calls + each <= CALLS) {
            Check.tell(x, text);
            calls += each;
        }
    }

    private static void deeds(OrderMerge x) {
        for (int i = 0; i < CALLS / 8; i++) {
            x.mood(i % 10);
            x.give(6, 0);
            x.swap(6, 0);
            x.image(i % 2);
            x.take(6, 0);
            x.define(i % 9, i % 8, i % 3);
            x.day(i, 40);
            x.undo(1);
        }
    }

    /** What only asks makes nothing at all. */
    private static void questions() {
        atMost("questions of orders", NOTHING, x -> {
            for (int i = 0; i < CALLS; i++) {
                x.order(i % 9, i % 5);
                x.above(i % 9);
                x.below(i % 9);
                x.ring(i % 9, 0);
                x.ways(i % 9);
                x.rank(i % 9);
                x.old(i % 9, 1 + i % 3, 2);
                x.breaks(i % 9, 1 + i % 3);
                x.same(1 + i % 3);
            }
        });
        atMost("questions of calls", NOTHING, x -> {
            for (int i = 0; i < CALLS; i++) {
                x.call(i % 9, i % 8);
                x.through(i % 9, i % 8, 0);
                x.serves(i % 9, i % 8);
                x.dead();
                x.firstDead();
                x.common(i % 9, i % 8);
                x.repairs();
                x.repair(0);
                x.chance(i % 4, 0);
                x.mean(i % 4, 1);
                x.count(i % 9);
            }
        });
        atMost("questions of trays", NOTHING, x -> {
            for (int i = 0; i < CALLS; i++) {
                x.numbers(0, i % 4, 3);
                x.write(0, 0, 3);
                x.write(0, 1, 1);
                x.judge(0, i % 4);
                x.would(0);
                x.wouldOrder(0, 1);
                x.wouldWays(0);
                x.moods(0);
                x.attempt(0);
                x.lists(0, 3);
            }
        });
    }
}
