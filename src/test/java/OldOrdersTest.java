/** Promises 26 to 28: old, breaks, same. */
public final class OldOrdersTest {
    private static final Check CHECK = new Check();

    public static void main(String[] args) {
        diamond();
        deeper();
        refusedAndLost();
        codes();
        CHECK.end();
    }

    private static void due(String what, long got, long want) {
        CHECK.due(what, got, want);
    }

    private static void oldIs(OrderMerge x, int c, int kind, int... row) {
        for (int i = 0; i < row.length; i++) {
            due("26: old(" + c + ", " + kind + ", " + i + ")", x.old(c, kind, i), row[i]);
        }
        due("26: the end of old(" + c + ", " + kind + ")", x.old(c, kind, row.length), -1);
    }

    private static void diamond() {
        OrderMerge x = Check.told("house mood 0;class;class 0;class 0;class 1 2;");
        oldIs(x, 0, 1, 0);
        oldIs(x, 3, 1, 3, 1, 0, 2);
        oldIs(x, 3, 2, 3, 1, 2, 0);
        oldIs(x, 3, 3, 3, 1, 2, 0);
        due("27: 2 behind 0", x.breaks(3, 1), 1);
        due("27: none", x.breaks(3, 2), 0);
        due("27: none", x.breaks(3, 3), 0);
        due("28: by depth", x.same(1), 7);
        due("28: the last stays", x.same(2), 15);
        due("28: by breadth", x.same(3), 15);
    }

    private static void deeper() {
        OrderMerge x = Check.told("house mood 0;class;class 0;class 1;class 0;class 2 3;class 1;class 5 4 0;");
        oldIs(x, 4, 1, 4, 2, 1, 0, 3);
        oldIs(x, 4, 2, 4, 2, 1, 3, 0);
        oldIs(x, 4, 3, 4, 2, 3, 1, 0);
        oldIs(x, 6, 1, 6, 5, 1, 0, 4, 2, 3);
        oldIs(x, 6, 2, 6, 5, 4, 2, 1, 3, 0);
        oldIs(x, 6, 3, 6, 5, 4, 0, 1, 2, 3);
        // Its demands: 6 ahead of 5 4 0; 5 1 0; 4 2 1 3 0; 5 4 0.
        due("27: 4 0, 2 0, 3 0, 4 1, 2 1", x.breaks(6, 1), 5);
        due("27: none", x.breaks(6, 2), 0);
        due("27: 1 0, 2 0, 3 0, 2 1", x.breaks(6, 3), 4);
        due("28: by depth", x.same(1), 0b0101111);
        due("28: the last stays", x.same(2), 0b1111111);
        due("28: by breadth", x.same(3), 0b0101111);
    }

    private static void refusedAndLost() {
        OrderMerge x = Check.told("house mood 0;class;class;class 0 1;class 1 0;class 2 3;class 4;");
        due("7: refused", x.state(4), 1);
        due("7: lost", x.state(5), 2);
        oldIs(x, 4, 1, 4, 2, 0, 1, 3);
        oldIs(x, 4, 2, 4, 2, 3, 1, 0);
        oldIs(x, 4, 3, 4, 2, 3, 0, 1);
        oldIs(x, 5, 2, 5, 4, 2, 3, 1, 0);
        due("27: 1 0, 2.. 3 0, 3 1", x.breaks(4, 1), 3);
        due("27: 0 1", x.breaks(4, 2), 1);
        due("27: lost", x.breaks(5, 1), -1);
        due("28: those with an order alone", x.same(2), 15);
    }

    private static void codes() {
        OrderMerge x = Check.told("house mood 0;class;class 0;class 0 1;class 2;");
        due("26: class", x.old(4, 1, 0), -2);
        due("26: class", x.old(-1, 1, 0), -2);
        due("26: kind", x.old(0, 0, 0), -2);
        due("26: kind", x.old(0, 4, 0), -2);
        due("26: kind ahead of place", x.old(0, 4, -1), -2);
        due("26: place", x.old(3, 1, -1), -3);
        due("26: far", x.old(3, 1, Integer.MAX_VALUE), -1);
        due("27: class", x.breaks(4, 1), -2);
        due("27: kind", x.breaks(0, 0), -2);
        due("27: kind ahead of lost", x.breaks(3, 4), -2);
        due("27: lost", x.breaks(3, 3), -1);
        due("28: kind", x.same(0), -2);
        due("28: kind", x.same(4), -2);
        due("28: kind", x.same(-1), -2);
    }
}
