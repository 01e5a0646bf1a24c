import java.lang.reflect.InvocationTargetException;
import java.lang.reflect.Method;
import java.lang.reflect.Modifier;
import java.util.ArrayList;
import java.util.Arrays;
import java.util.Comparator;
import java.util.List;
import java.util.Random;

/** All promises: any arguments in any state end in an answer, and a refused call changes nothing. */
public final class StrayTest {
    private static final int RUNS = 120;
    private static final int CALLS = 512;
    private static final long[] EDGES = {Integer.MIN_VALUE, Integer.MIN_VALUE + 1, -1000, -100, -2, -1, 10, 11, 39, 40,
        41, 100, 899, 900, 901, 1299, 1300, 65535, Integer.MAX_VALUE - 1, Integer.MAX_VALUE};
    private static final Check CHECK = new Check();

    public static void main(String[] args) throws IllegalAccessException {
        List<Method> calls = new ArrayList<>();
        for (Method call : OrderMerge.class.getDeclaredMethods()) {
            if (Modifier.isPublic(call.getModifiers())) {
                calls.add(call);
            }
        }
        calls.sort(Comparator.comparing(Method::getName));
        CHECK.due("the face has so many methods", calls.size(), 48);
        for (int seed = 0; seed < RUNS; seed++) {
            run(calls, new Random(seed));
        }
        CHECK.end();
    }

    private static void run(List<Method> calls, Random random) throws IllegalAccessException {
        OrderMerge x = new OrderMerge();
        if (random.nextInt(4) > 0) {
            Check.tell(x, "house mood 1;class;class 0;class 1;class 0 1;class 2 3;class 4 1;class;class 6 2 1;class 0 7;"
                + "method 0 in 0 ends;method 1 in 2 next;method 1 in 0 next;method 7 in 4 next;method 7 in 1 ends;"
                + "says:if mood>4 then next*mood else in*method-for+depth end;seen:not mood=3 or in<for;");
        }
        for (int i = 0; i < CALLS; i++) {
            Method call = calls.get(random.nextInt(calls.size()));
            Object[] arguments = new Object[call.getParameterCount()];
            for (int j = 0; j < arguments.length; j++) {
                long v = random.nextInt(8) == 0 ? EDGES[random.nextInt(EDGES.length)] : random.nextInt(10);
                if (call.getParameterTypes()[j] == long.class) {
                    arguments[j] = random.nextInt(3) == 0 ? random.nextLong() : deedLike(random);
                } else {
                    arguments[j] = (int) v;
                }
            }
            String before = digest(x);
            long answer = answer(x, call, arguments);
            boolean refused = answer <= -2 && answer >= -12 && !call.getName().equals("write") || answer <= -99000001;
            boolean reads = !"feed house give take swap define mood undo perform day numbers write lists image restore"
                .contains(call.getName());
            if (refused || reads) {
                CHECK.due(call.getName() + Arrays.toString(arguments) + " changed something",
                    before.equals(digest(x)) ? 0 : 1, 0);
            }
        }
    }

    private static Long deedLike(Random random) {
        int[] base = {0, 10, 100, 200, 300, 1000, 150000, 20750000};
        return (long) base[random.nextInt(base.length)] + random.nextInt(100);
    }

    private static long answer(OrderMerge x, Method call, Object[] arguments) throws IllegalAccessException {
        try {
            return ((Number) call.invoke(x, arguments)).longValue();
        } catch (InvocationTargetException e) {
            CHECK.due(call.getName() + Arrays.toString(arguments) + " threw " + e.getCause(), 1, 0);
            return 0;
        }
    }

    private static String digest(OrderMerge x) {
        StringBuilder all = new StringBuilder();
        for (int what = 0; what <= 8; what++) {
            all.append(x.count(what)).append(' ');
        }
        all.append(x.fault(0)).append(' ').append(x.fault(1)).append('\n');
        for (int c = 0; c < x.count(0); c++) {
            for (int i = 0; i < 4; i++) {
                all.append(x.parent(c, i)).append(' ').append(x.order(c, i)).append(' ');
            }
            for (int m = 0; m < 8; m++) {
                all.append(x.defines(c, m)).append(' ').append(x.call(c, m)).append(' ');
            }
        }
        for (int tray = 0; tray < 4; tray++) {
            all.append(x.judge(tray, 0)).append(' ').append(x.judge(tray, 3)).append(' ').append(x.would(tray));
        }
        return all.toString();
    }
}
