/**
 * Promises 1 and 5 to 11, and what an ORDER is, sentence by sentence: each case that the document
 * names.
 */
public final class HouseEdgesTest {
    private static final int LEAST = Integer.MIN_VALUE;
    private static final int MOST = Integer.MAX_VALUE;
    private static final String CHAIN = "house mood 0;class;class 0;class 1;class 2;class 3;class 4;class 5;class 6;"
        + "class 7;class 8;";
    private static final Check CHECK = new Check();

    public static void main(String[] args) {
        newObjectHasNothing();
        newObjectCanBeUsed();
        objectsShareNothing();
        parents();
        definitions();
        states();
        lostAheadOfRefused();
        ordersOfOneAndOfTen();
        merges();
        noOrderNoPlace();
        places();
        aboveAndBelow();
        CHECK.end();
    }

    private static void due(String what, long got, long want) {
        CHECK.due(what, got, want);
    }

    private static void orderIs(OrderMerge x, int c, int... row) {
        due("7: " + c + " has an order", x.state(c), 0);
        for (int i = 0; i < row.length; i++) {
            due("8: order(" + c + ", " + i + ")", x.order(c, i), row[i]);
            due("9: place(" + c + ", " + row[i] + ")", x.place(c, row[i]), i);
        }
        due("8: not so many: order(" + c + ")", x.order(c, row.length), -1);
        due("8: not nearly so many: order(" + c + ")", x.order(c, MOST), -1);
        due("8: the place is below 0", x.order(c, -1), -3);
    }

    /** "No CLASSES." */
    private static void newObjectHasNothing() {
        OrderMerge x = new OrderMerge();
        for (int what = 0; what <= 8; what++) {
            due("1: count(" + what + ")", x.count(what), 0);
        }
        for (int c = -1; c <= 10; c++) {
            due("1: parent", x.parent(c, 0), -2);
            due("1: defines", x.defines(c, 0), -2);
            due("1: state", x.state(c), -2);
            due("1: order", x.order(c, 0), -2);
            due("1: place", x.place(c, c), -2);
            due("1: above", x.above(c), -2);
            due("1: below", x.below(c), -2);
            due("1: give", x.give(c, 0), -11);
            due("1: take", x.take(c, 0), -11);
            due("1: swap", x.swap(c, 0), -11);
            due("1: define", x.define(c, 0, 0), -11);
            due("1: demands", x.demands(c), -2);
            due("1: demand", x.demand(c, 0), -2);
            due("1: ring", x.ring(c, 0), -2);
            due("1: ways", x.ways(c), -2);
            due("1: rank", x.rank(c), -2);
            due("1: old", x.old(c, 1, 0), -2);
            due("1: breaks", x.breaks(c, 1), -2);
            due("1: call", x.call(c, 0), -99000002);
            due("1: through", x.through(c, 0, 0), -2);
            due("1: serves", x.serves(c, 0), -2);
            due("1: common", x.common(c, c), -2);
            due("1: lists", x.lists(0, c), -2);
        }
        for (int tray = 0; tray < 4; tray++) {
            due("1: MISSING at first", x.perform(tray), -6);
            due("1: MISSING at first", x.judge(tray, 0), -6);
            due("1: MISSING at first", x.would(tray), -6);
            due("1: MISSING at first", x.moods(tray), -6);
            due("1: MISSING at first", x.write(tray, 0, 1), -6);
        }
        due("1: no image at first", x.restore(0), -5);
        due("1: no image at first", x.restore(1), -5);
        due("1: nothing can be undone", x.undo(1), -3);
    }

    private static void newObjectCanBeUsed() {
        OrderMerge x = new OrderMerge();
        for (int kind = 1; kind <= 3; kind++) {
            due("28: of no classes", x.same(kind), 0);
        }
        due("32: none", x.dead(), 0);
        due("33: none", x.firstDead(), -1);
        due("38: all have an order", x.repairs(), 0);
        due("39: not so many", x.repair(0), -1);
        for (int n = 0; n <= 3; n++) {
            due("42: sure", x.chance(n, 0), 1);
            due("42: sure", x.chance(n, 1), 1);
            due("43: none", x.mean(n, 0), 0);
            due("43: none", x.mean(n, 1), 1);
        }
        due("44: a tray", x.numbers(0, 0, 0), 0);
        due("35: without parents", x.would(0), 0);
        due("36: itself alone", x.wouldOrder(0, 1), -1);
        due("37: 1 of none", x.wouldWays(0), 1);
        due("18: no deeds", x.judge(0, 2), 0);
        due("18: no deeds", x.judge(0, 3), 0);
        x.numbers(0, 0, 1);
        due("35: 0 is no class", x.would(0), -3);
        due("40: 0 tells of no class", x.moods(0), -3);
        due("16: MOOD 0 without a text", x.mood(9), 0);
        due("47: an image of it", x.image(0), 0);
        due("17: undone", x.undo(1), 0);
        due("16: undone", x.count(3), 0);
        due("48: restored", x.restore(0), 0);
        due("48: restored", x.count(3), 9);
    }

    private static void objectsShareNothing() {
        OrderMerge first = Twins.rich();
        OrderMerge second = new OrderMerge();
        due("1: another one has no classes", second.count(0), 0);
        due("1: nor a tray", second.perform(1), -6);
        due("1: nor an image", second.restore(0), -5);
        due("1: nor bytes", second.count(7), 0);
        second.mood(7);
        due("1: nor a mood", first.count(3), 2);
    }

    /** "The PARENT in a place (0 the first) of a CLASS. NONE: not so many; -2; -3." */
    private static void parents() {
        OrderMerge x = Check.told("house mood 0;class;class;class;class;class;class 4;class 4 2;class 3 4 0;class 1 4 3 0;");
        int[][] rows = {{}, {}, {}, {}, {}, {4}, {4, 2}, {3, 4, 0}, {1, 4, 3, 0}};
        for (int c = 0; c < rows.length; c++) {
            for (int i = 0; i < 6; i++) {
                due("5: parent(" + c + ", " + i + ")", x.parent(c, i), i < rows[c].length ? rows[c][i] : -1);
            }
            due("5: not nearly so many", x.parent(c, MOST), -1);
            due("5: the place is below 0", x.parent(c, -1), -3);
            due("5: the place is below 0", x.parent(c, LEAST), -3);
        }
        for (int c : new int[] {-1, 9, 10, LEAST, MOST}) {
            due("5: no class", x.parent(c, 0), -2);
            due("5: no class, told first", x.parent(c, -1), -2);
        }
    }

    /** "0 it doesn't, 1 ending, 2 going on. -2." */
    private static void definitions() {
        OrderMerge x = Check.told("house mood 0;class;class;class 0;method 0 in 0 ends;method 7 in 0 next;method 7 in 2 ends;");
        int[][] ways = {{1, 0, 0, 0, 0, 0, 0, 2}, {}, {0, 0, 0, 0, 0, 0, 0, 1}};
        for (int c = 0; c < 3; c++) {
            for (int m = 0; m < 8; m++) {
                due("6: defines(" + c + ", " + m + ")", x.defines(c, m), m < ways[c].length ? ways[c][m] : 0);
            }
            for (int m : new int[] {-1, 8, LEAST, MOST}) {
                due("6: no such method", x.defines(c, m), -2);
            }
        }
        for (int c : new int[] {-1, 3, 9, 10, LEAST, MOST}) {
            due("6: no such class", x.defines(c, 0), -2);
        }
    }

    /** "It is LOST, if a PARENT is REFUSED or LOST. Both have no ORDER." */
    private static void states() {
        OrderMerge x = Check.told("house mood 0;class;class 0;class 0 1;class 2;class 3;class 1 2;class 2 1;class 1;class 7 0;");
        int[] due = {0, 0, 1, 2, 2, 2, 2, 0, 0};
        for (int c = 0; c < due.length; c++) {
            due("7: state(" + c + ")", x.state(c), due[c]);
        }
        due("49: with an order", x.count(4), 0b110000011);
        due("49: refused, not lost", x.count(5), 0b000000100);
        for (int c : new int[] {-1, 9, 10, LEAST, MOST}) {
            due("7: no such class", x.state(c), -2);
        }
        // What binds it is gone, and all that hang on it have orders again.
        due("13: take", x.take(2, 0), 0);
        due("7: lost no more, but 1 is ahead of its own heir 2", x.state(5), 1);
        due("7: the heir first", x.state(6), 0);
        due("49: that one alone is refused", x.count(5), 0b000100000);
        due("17: undone", x.undo(1), 0);
        for (int c = 0; c < due.length; c++) {
            due("7: as it was: state(" + c + ")", x.state(c), due[c]);
        }
    }

    private static void lostAheadOfRefused() {
        // Its own demands would be at odds, too: 0 ahead of its heir 1.
        OrderMerge x = Check.told("house mood 0;class;class 0;class 0 1;class 0 1 2;class 2 0 1;");
        due("7: refused", x.state(2), 1);
        due("7: lost, not refused: the last parent", x.state(3), 2);
        due("7: lost, not refused: the first parent", x.state(4), 2);
        due("49: refused", x.count(5), 4);
    }

    private static void ordersOfOneAndOfTen() {
        OrderMerge x = Check.told("house mood 0;class;");
        orderIs(x, 0, 0);
        OrderMerge y = Check.told(CHAIN);
        for (int c = 0; c < 10; c++) {
            for (int i = 0; i <= 10; i++) {
                due("8: a chain", y.order(c, i), i <= c ? c - i : -1);
            }
            for (int d = 0; d < 10; d++) {
                due("9: a chain", y.place(c, d), d <= c ? c - d : -1);
            }
        }
        OrderMerge z = Check.told("house mood 0;class;class;class;class;class;class;class 0 1;class 2 3;class 4 5;class 6 7 8;");
        orderIs(z, 9, 9, 6, 0, 1, 7, 2, 3, 8, 4, 5);
    }

    /** "The first whose first one stands behind the first place in none of them gives its first one." */
    private static void merges() {
        OrderMerge x = Check.told("house mood 0;class;class;class 1;class 0;class 2 0;class 0 2;class 3 2;class 2 3;");
        orderIs(x, 4, 4, 2, 1, 0);
        orderIs(x, 5, 5, 0, 2, 1);
        orderIs(x, 6, 6, 3, 0, 2, 1);
        orderIs(x, 7, 7, 2, 1, 3, 0);
        // 0 waits till both 1 and 2 are gone.
        OrderMerge y = Check.told("house mood 0;class;class 0;class 0;class 1 2;class 1 2 0;class 2 1;class 3 2;class 3 5;");
        orderIs(y, 3, 3, 1, 2, 0);
        orderIs(y, 4, 4, 1, 2, 0);
        orderIs(y, 6, 6, 3, 1, 2, 0);
        due("7: 1 ahead of 2, 2 ahead of 1", y.state(7), 1);
        // The row of the parents binds, too: with the orders alone there would be one.
        OrderMerge z = Check.told("house mood 0;class;class;class 0;class 0 2;class 1 2;class 2 1 0;class 0 1;class 1 0;");
        due("7: a parent ahead of its own heir", z.state(3), 1);
        orderIs(z, 5, 5, 2, 1, 0);
        orderIs(z, 6, 6, 0, 1);
        orderIs(z, 7, 7, 1, 0);
    }

    private static void noOrderNoPlace() {
        OrderMerge x = Check.told("house mood 0;class;class 0;class 0 1;class 2;");
        for (int c = 2; c <= 3; c++) {
            for (int i = 0; i < 4; i++) {
                due("8: it has none", x.order(c, i), -1);
                due("9: there is none", x.place(c, i), -1);
            }
            due("8: the place, ahead of its having none", x.order(c, -1), -3);
            due("8: the place, ahead of its having none", x.order(c, LEAST), -3);
            due("9: no such class, ahead of there being none", x.place(c, 4), -2);
        }
    }

    private static void places() {
        OrderMerge x = Check.told("house mood 0;class;class;class 1;class 2 0;");
        due("9: itself", x.place(3, 3), 0);
        due("9: the last", x.place(3, 0), 3);
        due("9: it isn't there", x.place(2, 0), -1);
        due("9: an heir isn't there", x.place(2, 3), -1);
        for (int c : new int[] {-1, 4, 9, 10, LEAST, MOST}) {
            due("9: no such class", x.place(c, 0), -2);
            due("9: no such class to look for", x.place(3, c), -2);
            due("9: both", x.place(c, c), -2);
            due("8: no such class", x.order(c, 0), -2);
            due("8: no such class, told first", x.order(c, -1), -2);
        }
    }

    /** "Its ancestors by PARENTS and theirs (itself too)", "those of which it is one (itself too)". */
    private static void aboveAndBelow() {
        OrderMerge x = Check.told(CHAIN);
        for (int c = 0; c < 10; c++) {
            due("10: a chain", x.above(c), (1 << c + 1) - 1);
            due("11: a chain", x.below(c), 1023 & -(1 << c));
        }
        OrderMerge y = Check.told("house mood 0;class;class;class;class;class;class;class;class;class;class;");
        for (int c = 0; c < 10; c++) {
            due("10: itself alone", y.above(c), 1 << c);
            due("11: itself alone", y.below(c), 1 << c);
        }
        // Refused and lost ones have ancestors, too.
        OrderMerge z = Check.told("house mood 0;class;class 0;class 0 1;class 2;class;class 4 3;");
        due("10: of a refused one", z.above(2), 0b000111);
        due("10: of a lost one", z.above(5), 0b111111);
        due("11: refused and lost ones", z.below(0), 0b101111);
        due("11: lost ones", z.below(2), 0b101100);
        for (int c : new int[] {-1, 6, 9, 10, LEAST, MOST}) {
            due("10: no such class", z.above(c), -2);
            due("11: no such class", z.below(c), -2);
        }
    }
}
