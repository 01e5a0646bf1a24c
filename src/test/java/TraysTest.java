/** Promises 44 to 49: numbers, write, lists, image, restore, count. */
public final class TraysTest {
    private static final Check CHECK = new Check();

    public static void main(String[] args) {
        trays();
        sorts();
        lists();
        images();
        counts();
        CHECK.end();
    }

    private static void due(String what, long got, long want) {
        CHECK.due(what, got, want);
    }

    private static void trays() {
        OrderMerge x = new OrderMerge();
        for (int tray = 0; tray < 4; tray++) {
            due("44: missing at first", x.write(tray, 0, 0), -6);
        }
        due("44: tray", x.numbers(4, 0, 0), -2);
        due("44: tray", x.numbers(-1, 0, 41), -2);
        due("44: sort", x.numbers(0, 4, 0), -2);
        due("44: sort", x.numbers(0, -1, -1), -2);
        due("44: n", x.numbers(0, 0, -1), -3);
        due("44: n", x.numbers(0, 0, 41), -3);
        due("44: still missing", x.perform(0), -6);
        due("44: none", x.numbers(0, 0, 0), 0);
        due("44: not missing", x.perform(0), 0);
        due("45: no such number", x.write(0, 0, 5), -7);
        due("44: forty", x.numbers(0, 1, 40), 0);
        due("45: the last", x.write(0, 39, 17), 17);
        due("45: beyond", x.write(0, 40, 17), -7);
        due("45: below", x.write(0, -1, 17), -7);
        due("45: tray", x.write(4, 0, 0), -2);
        due("45: tray ahead of number", x.write(-1, -1, 0), -2);
        due("45: missing ahead of number", x.write(1, -1, 0), -6);
        // All 0 again in place of another one; with a code it stays.
        Check.fill(x, 2, 1, 14, 15);
        due("44: n", x.numbers(2, 0, 41), -3);
        due("44: it stays", x.perform(2), 2);
        due("44: anew", x.numbers(2, 1, 2), 0);
        due("44: all are 0", x.judge(2, 0), 0);
    }

    private static void sorts() {
        OrderMerge x = new OrderMerge();
        long[] values = {0, 1, -1, 127, 128, 255, 256, -129, 32767, 32768, 65535, 65536, 2147483647L, 2147483648L,
            4294967296L, Long.MAX_VALUE, Long.MIN_VALUE};
        for (int sort = 0; sort < 4; sort++) {
            x.numbers(sort, sort, 1);
            for (long v : values) {
                long cut = sort == 0 ? (byte) v : sort == 1 ? (short) v : sort == 2 ? (int) v : v;
                due("45: sort " + sort + ": " + v, x.write(sort, 0, v), cut);
            }
        }
        // As it is there: 268 of 8 bits is 12, the mood 2.
        Check.fill(x, 0, 0, 268);
        due("45: cut", x.perform(0), 1);
        due("45: cut", x.count(3), 2);
    }

    private static void lists() {
        OrderMerge x = Check.told("house mood 0;class;class;class 1 0;class 0 1;class 2 3;class 4;");
        due("46: tray", x.lists(4, 0), -2);
        due("46: class", x.lists(0, 6), -2);
        due("46: class", x.lists(0, -1), -2);
        due("46: missing", x.lists(0, 2), -6);
        due("46: missing ahead of no order", x.lists(0, 4), -6);
        x.numbers(0, 0, 3);
        due("46: refused", x.lists(0, 4), -5);
        due("46: lost", x.lists(0, 5), -5);
        due("46: as far as it has places", x.lists(0, 2), 3);
        // It stands there as 2 1 0; as parents they are the order of a new class.
        due("46: listed", x.would(0), 0);
        due("46: listed", x.wouldOrder(0, 1), 2);
        due("46: listed", x.wouldOrder(0, 2), 1);
        due("46: listed", x.wouldOrder(0, 3), 0);
        x.numbers(0, 3, 2);
        due("46: two places", x.lists(0, 3), 2);
        due("46: listed", x.wouldOrder(0, 1), 3);
        due("46: listed", x.wouldOrder(0, 2), 0);
        x.numbers(0, 2, 0);
        due("46: no place", x.lists(0, 3), 0);
        Check.fill(x, 0, 1, 1, 1, 1, 12);
        due("46: one", x.lists(0, 0), 1);
        due("46: the others stay", x.write(0, 0, 11), 11);
        x.write(0, 1, 12);
        x.write(0, 2, 13);
        due("46: the others stay", x.perform(0), 4);
        due("46: the others stay", x.count(3), 2);
    }

    private static void images() {
        OrderMerge x = new OrderMerge();
        due("47: no such", x.image(2), -2);
        due("47: no such", x.image(-1), -2);
        due("48: no such", x.restore(2), -2);
        due("48: no such", x.restore(-1), -2);
        due("48: none was made", x.restore(0), -5);
        due("48: none was made", x.restore(1), -5);
        due("47: of an empty house", x.image(1), 0);
        Check.tell(x, "house mood 4;class;class 0;class 0;method 2 in 0 ends;says:mood*10+in;seen:for>0;");
        x.give(2, 1);
        x.mood(5);
        due("47: made", x.image(0), 0);
        due("47: what can be undone stays", x.count(6), 2);
        x.mood(6);
        x.define(1, 2, 0);
        x.take(2, 0);
        Check.fill(x, 0, 0, 1);
        Check.tell(x, "house mood 9;class;class;class;class;class;says:1;");
        x.mood(7);
        Check.feed(x, "house");
        due("48: restored", x.restore(0), 0);
        due("48: classes", x.count(0), 3);
        due("48: links", x.count(1), 3);
        due("48: definitions", x.count(2), 1);
        due("48: mood", x.count(3), 5);
        due("48: states", x.state(2), 1);
        due("48: lines", x.count(8), 7);
        due("48: nothing can be undone", x.count(6), 0);
        due("48: nothing can be undone", x.undo(1), -3);
        due("48: law of saying", x.call(1, 2), 50);
        due("48: law of seeing", x.call(0, 2), -99000001);
        due("48: the tape isn't in it", x.count(7), 20);
        due("48: the trays aren't in it", x.write(0, 0, 3), 3);
        x.mood(1);
        due("48: the image stays as it was", x.restore(0), 0);
        due("48: the image stays as it was", x.count(3), 5);
        due("48: the other one", x.restore(1), 0);
        due("48: the other one", x.count(0), 0);
        due("48: the other one", x.count(8), 0);
        due("48: the other one", x.count(3), 0);
        due("48: both", x.restore(0), 0);
        x.mood(8);
        due("47: made anew", x.image(0), 0);
        x.mood(9);
        x.restore(0);
        due("47: made anew", x.count(3), 8);
    }

    private static void counts() {
        OrderMerge x = Check.told("house mood 6;class;class 0;class 0 1;class 2;class;method 0 in 0 ends;"
            + "method 0 in 0 next;method 7 in 3 next;says:1;");
        x.mood(3);
        Check.feed(x, "house mood 0;");
        int[] due = {5, 4, 2, 3, 0b10011, 0b00100, 1, 20, 10};
        for (int what = 0; what < due.length; what++) {
            due("49: count(" + what + ")", x.count(what), due[what]);
        }
        due("49: others", x.count(9), -1);
        due("49: others", x.count(-1), -1);
        due("49: others", x.count(Integer.MIN_VALUE), -1);
    }
}
