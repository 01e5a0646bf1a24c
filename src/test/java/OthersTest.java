/** Promises 34 to 39: common, would, wouldOrder, wouldWays, repairs, repair. */
public final class OthersTest {
    private static final Check CHECK = new Check();

    public static void main(String[] args) {
        common();
        wouldBe();
        wouldCodes();
        repairs();
        CHECK.end();
    }

    private static void due(String what, long got, long want) {
        CHECK.due(what, got, want);
    }

    private static void common() {
        OrderMerge x = Check.told("house mood 0;class;class;class 0 1;class 1 0;class 2 3;class 1;class 4;");
        due("34: first of a", x.common(2, 3), 0);
        due("34: first of a", x.common(3, 2), 1);
        due("34: itself", x.common(2, 2), 2);
        due("34: one of both", x.common(2, 5), 1);
        due("34: heir and parent", x.common(0, 2), 0);
        due("34: none", x.common(0, 5), -1);
        due("34: class", x.common(7, 4), -2);
        due("34: class", x.common(4, -1), -2);
        due("34: refused", x.common(4, 0), -5);
        due("34: lost", x.common(0, 6), -5);
    }

    private static void wouldBe() {
        OrderMerge x = Check.told("house mood 0;class;class;class 0 1;class 1 0;class 2 3;class 4;class;class;class;class;");
        Check.fill(x, 1, 0);
        due("35: without parents", x.would(1), 0);
        due("36: itself alone", x.wouldOrder(1, 1), -1);
        due("37: one of none", x.wouldWays(1), 1);
        Check.fill(x, 1, 0, 2);
        due("35: one", x.would(1), 0);
        due("36: one", x.wouldOrder(1, 1), 2);
        due("36: one", x.wouldOrder(1, 2), 0);
        due("36: one", x.wouldOrder(1, 3), 1);
        due("36: not so many", x.wouldOrder(1, 4), -1);
        due("36: far", x.wouldOrder(1, Integer.MAX_VALUE), -1);
        due("37: one", x.wouldWays(1), 1);
        Check.fill(x, 1, 3, 2, 3);
        due("35: refused", x.would(1), 1);
        due("36: refused", x.wouldOrder(1, 1), -1);
        due("37: none", x.wouldWays(1), 0);
        Check.fill(x, 1, 3, 9, 5);
        due("35: lost", x.would(1), 2);
        due("36: lost", x.wouldOrder(1, 1), -1);
        due("37: none", x.wouldWays(1), 0);
        Check.fill(x, 1, 3, 9, 4);
        due("35: lost by a refused one", x.would(1), 2);
        Check.fill(x, 1, 3, 0, 1, 2, 6);
        due("35: refused", x.would(1), 1);
        // 2 ahead of 0 ahead of 1; 6 in any of four places.
        due("37: of 24", x.wouldWays(1), 4);
        Check.fill(x, 1, 3, 6, 7, 8, 9);
        due("35: order", x.would(1), 0);
        due("36: the last", x.wouldOrder(1, 4), 9);
        due("37: all", x.wouldWays(1), 24);
        Check.fill(x, 1, 3, 2, 0, 6);
        due("37: of 6", x.wouldWays(1), 3);
        due("35: nothing has come", x.count(0), 10);
        due("35: nothing has come", x.count(4), 0b1111001111);
        due("35: nothing to undo", x.count(6), 0);
    }

    private static void wouldCodes() {
        OrderMerge x = Check.told("house mood 0;class;class;class;class;class;");
        due("35: tray", x.would(4), -2);
        due("35: tray", x.would(-1), -2);
        due("35: missing", x.would(2), -6);
        due("36: tray", x.wouldOrder(4, 0), -2);
        due("36: missing", x.wouldOrder(2, 0), -6);
        due("37: tray", x.wouldWays(-1), -2);
        due("37: missing", x.wouldWays(2), -6);
        Check.fill(x, 2, 1, 0, 1, 2, 3, 9);
        due("35: too many", x.would(2), -4);
        due("36: too many", x.wouldOrder(2, 0), -4);
        due("37: too many", x.wouldWays(2), -4);
        long[][] bad = {{5}, {-1}, {0, 0}, {0, 1, 2, 0}, {1L << 32}, {Long.MIN_VALUE}, {4, 1L << 40 | 3}};
        for (long[] row : bad) {
            Check.fill(x, 2, 3, row);
            due("35: no class or twice", x.would(2), -3);
            due("36: no class or twice", x.wouldOrder(2, 1), -3);
            due("37: no class or twice", x.wouldWays(2), -3);
        }
        Check.fill(x, 2, 3, 4);
        due("36: place", x.wouldOrder(2, 0), -3);
        due("36: place", x.wouldOrder(2, Integer.MIN_VALUE), -3);
    }

    private static void repairIs(OrderMerge x, int... links) {
        due("38: repairs", x.repairs(), links.length);
        for (int i = 0; i < links.length; i++) {
            due("39: repair(" + i + ")", x.repair(i), links[i]);
        }
        due("39: not so many", x.repair(links.length), -1);
        due("39: not so many", x.repair(Integer.MAX_VALUE), -1);
    }

    private static void repairs() {
        repairIs(new OrderMerge());
        due("39: i", new OrderMerge().repair(-1), -3);
        OrderMerge x = Check.told("house mood 0;class;class;class 0 1;class 1 0;class 2 3;class 4;");
        due("39: i", x.repair(-1), -3);
        repairIs(x, 20);
        x.take(4, 3);
        repairIs(x);
        x.undo(1);
        repairIs(x, 20);
        // Its own parents are at odds: the first of both links.
        repairIs(Check.told("house mood 0;class;class 0;class 0 1;"), 10);
        repairIs(Check.told("house mood 0;class;class;class 1;class 0 1 2;"), 21);
        // Three that have nothing to do with one another, two of each.
        repairIs(Check.told("house mood 0;class;class 0;class 0 1;class;class 3;class 3 4;"), 10, 43);
        repairIs(Check.told("house mood 0;class;class 0;class 0 1;class;class 3;class 3 4;class;class 6;class 6 7;"),
            10, 43, 76);
        // To take 1 0 would mend all heirs at once; by the number of links it's the first, too.
        repairIs(Check.told("house mood 0;class;class 0;class 0 1;class 0 1;class 0 1;class 0 1;"), 10);
        // Each of 2 to 5 is refused by links of its own or of 1.
        OrderMerge four = Check.told("house mood 0;class;class 0;class;class 0 1;class;class 4;class 4 5;class 2;class 2 7;");
        repairIs(four, 10, 54, 72);
        due("12: one more", four.count(5), 1 << 3 | 1 << 6 | 1 << 8);
        // Four that have no link in common: not by three.
        OrderMerge many = Check.told("house mood 0;class;class 0;class 0;class 0;class 0;class 0 1;class 0 2;class 0 3;"
            + "class 0 4;");
        due("38: not by so few", many.repairs(), -1);
        due("39: not by so few", many.repair(0), -1);
        due("39: i", many.repair(-1), -3);
        many.take(8, 0);
        repairIs(many, 10, 20, 30);
        OrderMerge two = Check.told("house mood 0;class;class;class;class;class 0 1;class 1 0;class 2 3;class 3 2;"
            + "class 4 5 6 7;class 7 6 5 4;");
        due("38: refused twice", two.count(5), 1 << 8 | 1 << 9);
        due("38: by two", two.repairs(), 2);
        due("39: by two", two.repair(0), 40);
        due("39: by two", two.repair(1), 62);
    }
}
