/** Promises 12 to 20: give, take, swap, define, mood, undo, judge, perform, day. */
public final class DeedsTest {
    private static final String HOUSE = "house mood 3;class;class;class;class;class;class 0;class 0 1 2 3;"
        + "method 0 in 0 ends;method 1 in 6 next;";
    private static final Check CHECK = new Check();

    public static void main(String[] args) {
        gives();
        takes();
        swaps();
        defines();
        moods();
        undoes();
        undoesTenAtMost();
        judges();
        judgesEachDeed();
        performs();
        days();
        CHECK.end();
    }

    private static void due(String what, long got, long want) {
        CHECK.due(what, got, want);
    }

    private static void gives() {
        OrderMerge x = Check.told(HOUSE);
        due("12: give", x.give(5, 4), 0);
        due("12: it is the last", x.parent(5, 1), 4);
        due("12: links", x.count(1), 6);
        due("12: no class", x.give(7, 0), -11);
        due("12: no class", x.give(-1, 0), -11);
        due("12: not lesser", x.give(5, 5), -11);
        due("12: not lesser", x.give(5, 6), -11);
        due("12: no such parent", x.give(5, -1), -11);
        due("12: already", x.give(5, 0), -12);
        due("12: there are four", x.give(6, 4), -12);
        due("12: there are four, not lesser", x.give(6, 6), -11);
        due("12: refused calls do nothing", x.count(6), 1);
        OrderMerge y = Check.told("house mood 0;class;class 0;class 0;class 2;");
        due("12: refused then", y.give(2, 1), 1);
        due("12: and lost", y.state(3), 2);
        due("12: lost then", y.give(3, 0), 2);
    }

    private static void takes() {
        OrderMerge x = Check.told(HOUSE);
        due("13: take", x.take(6, 1), 0);
        due("13: those behind come up", x.parent(6, 1), 2);
        due("13: those behind come up", x.parent(6, 2), 3);
        due("13: three left", x.parent(6, 3), -1);
        due("13: it is none", x.take(6, 1), -12);
        due("13: it is none", x.take(6, 6), -12);
        due("13: no class", x.take(7, 0), -11);
        due("13: no class", x.take(-1, 0), -11);
        due("13: no such class to take", x.take(6, 7), -11);
        due("13: no such class to take", x.take(6, -1), -11);
        due("13: last", x.take(6, 3), 0);
        due("13: first", x.take(6, 0), 0);
        due("13: one left", x.parent(6, 0), 2);
        due("13: none left", x.take(6, 2), 0);
        due("13: none left", x.parent(6, 0), -1);
        due("13: links", x.count(1), 1);
        OrderMerge y = Check.told("house mood 0;class;class 0;class 0 1;class 2;");
        due("13: order then", y.take(2, 1), 0);
        due("13: found again", y.state(3), 0);
    }

    private static void swaps() {
        OrderMerge x = Check.told(HOUSE);
        due("14: swap", x.swap(6, 2), 0);
        due("14: swapped", x.parent(6, 2), 3);
        due("14: swapped", x.parent(6, 3), 2);
        due("14: first", x.swap(6, 0), 0);
        due("14: swapped", x.parent(6, 0), 1);
        due("14: order", x.order(6, 1), 1);
        due("14: no two", x.swap(6, 3), -12);
        due("14: no two", x.swap(6, -1), -12);
        due("14: no two", x.swap(6, Integer.MAX_VALUE), -12);
        due("14: one parent", x.swap(5, 0), -12);
        due("14: no parent", x.swap(0, 0), -12);
        due("14: no class", x.swap(7, 0), -11);
        due("14: no class", x.swap(-1, -1), -11);
        OrderMerge y = Check.told("house mood 0;class;class 0;class 1 0;class 2;");
        due("14: refused then", y.swap(2, 0), 1);
        due("14: order then", y.swap(2, 0), 0);
    }

    private static void defines() {
        OrderMerge x = Check.told(HOUSE);
        due("15: ending", x.define(4, 7, 0), 0);
        due("15: going on", x.define(4, 7, 1), 1);
        due("15: again, too", x.define(4, 7, 1), 2);
        due("15: it is", x.defines(4, 7), 2);
        due("15: to undefine", x.define(4, 7, 2), 2);
        due("15: not at all", x.define(4, 7, 2), -12);
        due("15: it isn't", x.defines(4, 7), 0);
        due("15: class", x.define(7, 0, 0), -11);
        due("15: class", x.define(-1, 0, 2), -11);
        due("15: method", x.define(0, 8, 0), -11);
        due("15: method", x.define(0, -1, 2), -11);
        due("15: way", x.define(0, 0, 3), -11);
        due("15: way", x.define(0, 0, -1), -11);
        due("15: four calls did it", x.count(6), 4);
        due("15: definitions", x.count(2), 2);
    }

    private static void moods() {
        OrderMerge x = Check.told(HOUSE);
        due("16: mood", x.mood(9), 3);
        due("16: mood", x.mood(0), 9);
        due("16: the same", x.mood(0), 0);
        due("16: 10", x.mood(10), -11);
        due("16: -1", x.mood(-1), -11);
        due("16: it is", x.count(3), 0);
        due("16: calls", x.count(6), 3);
    }

    private static void undoes() {
        OrderMerge x = Check.told(HOUSE);
        due("17: nothing yet", x.undo(1), -3);
        x.give(5, 4);
        x.swap(6, 0);
        x.define(0, 0, 2);
        x.mood(8);
        due("17: n", x.undo(0), -3);
        due("17: n", x.undo(-1), -3);
        due("17: more than can be", x.undo(5), -3);
        due("17: n above 10", x.undo(11), -3);
        due("17: the mood", x.undo(1), 3);
        due("17: the mood", x.count(3), 3);
        due("17: two at once", x.undo(2), 1);
        due("17: the definition", x.defines(0, 0), 1);
        due("17: the parents", x.parent(6, 0), 0);
        due("17: the given one stays", x.parent(5, 1), 4);
        due("17: the last", x.undo(1), 0);
        due("17: the given one", x.parent(5, 1), -1);
        due("17: no more", x.undo(1), -3);
        x.take(6, 0);
        due("17: states follow", x.order(6, 1), 1);
        x.undo(1);
        due("17: states follow", x.order(6, 1), 0);
    }

    private static void undoesTenAtMost() {
        OrderMerge x = Check.told(HOUSE);
        for (int i = 0; i < 13; i++) {
            x.mood(i % 10);
        }
        due("17: ten at most", x.count(6), 10);
        due("17: more than can be", x.undo(11), -3);
        due("17: all ten", x.undo(10), 0);
        due("17: the eldest are forgotten", x.count(3), 2);
        for (int i = 0; i < 4; i++) {
            x.mood(5 + i);
        }
        due("17: and on", x.undo(3), 1);
        due("17: as it was", x.count(3), 5);
        due("17: and on", x.undo(1), 0);
        due("17: as it was", x.count(3), 2);
    }

    private static void judges() {
        OrderMerge x = Check.told("house mood 0;class;class 0;class 0;class 2;");
        due("18: tray", x.judge(4, 0), -2);
        due("18: tray", x.judge(-1, 0), -2);
        due("18: what ahead of missing", x.judge(0, 4), -2);
        due("18: what ahead of missing", x.judge(0, -1), -2);
        due("18: missing", x.judge(0, 3), -6);
        Check.fill(x, 0, 2);
        due("18: no deeds", x.judge(0, 0), -1);
        due("18: no deeds", x.judge(0, 1), 0);
        due("18: no deeds", x.judge(0, 2), 15);
        due("18: no deeds", x.judge(0, 3), 3);
        // Class 2 is given 1 behind 0: refused, and 3 lost.
        Check.fill(x, 0, 1, 121, 17, 121, 130);
        due("18: place", x.judge(0, 0), 2);
        due("18: why", x.judge(0, 1), 2);
        due("18: orders then", x.judge(0, 2), 3);
        due("18: links then", x.judge(0, 3), 4);
        due("18: nothing is done", x.count(1), 3);
        due("18: nothing is done", x.count(3), 0);
        due("18: nothing is done", x.count(6), 0);
        due("18: nothing is done", x.state(2), 0);
        Check.fill(x, 0, 1, 121, 320);
        due("18: all can be", x.judge(0, 0), -1);
        due("18: all can be", x.judge(0, 1), 0);
        due("18: swapped, it has an order", x.judge(0, 2), 15);
    }

    private static void judgesEachDeed() {
        OrderMerge x = Check.told(HOUSE);
        long[] can = {10, 19, 110, 154, 260, 263, 360, 362, 1000, 1006, 1073, 1100, 1173, 1200, 1216};
        for (long v : can) {
            Check.fill(x, 1, 3, v);
            due("18: deed " + v, x.judge(1, 0), -1);
        }
        long[] noSuch = {9, 20, 99, 0, -1, 100, 101, 155, 170, 199, 270, 267, 279, 370, 399, 400, 999, 1007, 1080, 1099,
            1180, 1280, 1290, 1300, 65546, 1L << 32 | 10, Long.MIN_VALUE, Long.MAX_VALUE};
        for (long v : noSuch) {
            Check.fill(x, 1, 3, v);
            due("18: deed " + v, x.judge(1, 0), 0);
            due("18: deed " + v + " why", x.judge(1, 1), 1);
        }
        long[] notSo = {150, 164, 200, 264, 266, 363, 369, 350, 300, 1201, 1270};
        for (long v : notSo) {
            Check.fill(x, 1, 3, v);
            due("18: deed " + v, x.judge(1, 0), 0);
            due("18: deed " + v + " why", x.judge(1, 1), 2);
        }
    }

    private static void performs() {
        OrderMerge x = Check.told(HOUSE);
        due("19: tray", x.perform(4), -2);
        due("19: missing", x.perform(3), -6);
        Check.fill(x, 0, 1);
        due("19: none", x.perform(0), 0);
        due("19: none can't be undone", x.count(6), 0);
        Check.fill(x, 0, 1, 0, 15);
        due("19: none could be", x.perform(0), 0);
        due("19: none can't be undone", x.count(6), 0);
        due("19: none behind it is done", x.count(3), 3);
        Check.fill(x, 0, 1, 15, 154, 260, 361, 1000, 1116, 1216, 1200, 1200, 19);
        due("19: till one can't be", x.perform(0), 8);
        due("19: the mood", x.count(3), 5);
        due("19: given", x.parent(5, 1), 4);
        due("19: taken", x.parent(6, 0), 1);
        due("19: swapped", x.parent(6, 1), 3);
        due("19: undefined", x.count(2), 0);
        due("19: as a whole", x.count(6), 1);
        due("19: undone as a whole", x.undo(1), 0);
        due("19: undone", x.count(3), 3);
        due("19: undone", x.parent(5, 1), -1);
        due("19: undone", x.parent(6, 0), 0);
        due("19: undone", x.count(2), 2);
        Check.fill(x, 0, 1, 1000 + 10 * 4 + 3, 1100 + 10 * 5 + 2);
        due("19: definitions", x.perform(0), 2);
        due("19: ending", x.defines(3, 4), 1);
        due("19: going on", x.defines(2, 5), 2);
    }

    private static void days() {
        OrderMerge x = new OrderMerge();
        due("20: times", x.day(1, 0), -3);
        due("20: times", x.day(1, 41), -3);
        due("20: times", x.day(1, -1), -3);
        for (int seed = -50; seed < 50; seed++) {
            for (int times = 1; times <= 40; times += 13) {
                OrderMerge by = Check.told(HOUSE);
                OrderMerge deeds = Check.told(HOUSE);
                int done = by.day(seed, times);
                due("20: day(" + seed + ", " + times + ")", done, oneByOne(deeds, seed, times));
                for (int what = 0; what <= 5; what++) {
                    due("20: count(" + what + ") behind the day", by.count(what), deeds.count(what));
                }
                for (int c = 0; c < 7; c++) {
                    for (int i = 0; i < 4; i++) {
                        due("20: parent behind the day", by.parent(c, i), deeds.parent(c, i));
                    }
                }
                due("20: undone as a whole", by.undo(1), done > 0 ? 0 : -3);
                due("20: undone", by.count(1), 5);
                due("20: undone", by.count(2), 2);
                due("20: undone", by.count(3), 3);
            }
        }
        // Without classes only a mood can be: a day without one can't be undone.
        int seed = 0;
        while (new OrderMerge().day(seed, 1) != 0) {
            seed++;
        }
        due("20: none could be", x.day(seed, 1), 0);
        due("20: none can't be undone", x.count(6), 0);
    }

    /** The day's deeds by trays of one number each. */
    private static int oneByOne(OrderMerge x, int seed, int times) {
        int[] base = {10, 100, 100, 200, 300, 1000};
        int[] range = {10, 100, 100, 100, 100, 300};
        int state = seed;
        int done = 0;
        x.numbers(2, 1, 1);
        for (int i = 0; i < times; i++) {
            state = state * 1103515245 + 12345;
            int kind = (state >>> 16) % 6;
            state = state * 1103515245 + 12345;
            x.write(2, 0, base[kind] + (state >>> 16) % range[kind]);
            done += x.perform(2);
        }
        return done;
    }
}
