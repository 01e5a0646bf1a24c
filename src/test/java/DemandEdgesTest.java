/**
 * Promises 21 to 28 and what DEMANDS, a RING and OLD ORDERS are, sentence by sentence: each case that
 * the document names.
 */
public final class DemandEdgesTest {
    private static final int LEAST = Integer.MIN_VALUE;
    private static final int MOST = Integer.MAX_VALUE;
    private static final String CHAIN = "house mood 0;class;class 0;class 1;class 2;class 3;class 4;class 5;class 6;class 7;";
    private static final Check CHECK = new Check();

    public static void main(String[] args) {
        noParentsNoDemands();
        itselfAheadOfParentsAlone();
        eachOnce();
        manyDemands();
        demandsOfRefusedAndLostOnes();
        ringsOfTheFewest();
        ringsByClasses();
        askedFirst();
        noRing();
        waysAndRanks();
        ranksFromFirstToLast();
        oldOrdersByDepth();
        oldOrdersByBreadth();
        oldOrdersOfAChain();
        breaks();
        same();
        codes();
        CHECK.end();
    }

    private static void due(String what, long got, long want) {
        CHECK.due(what, got, want);
    }

    private static void demandsAre(OrderMerge x, int c, int... pairs) {
        due("21: demands(" + c + ")", x.demands(c), pairs.length);
        for (int i = 0; i < pairs.length; i++) {
            due("22: demand(" + c + ", " + i + ")", x.demand(c, i), pairs[i]);
        }
        for (int i : new int[] {pairs.length, pairs.length + 1, 100, MOST}) {
            due("22: not so many", x.demand(c, i), -1);
        }
        due("22: i is below 0", x.demand(c, -1), -3);
        due("22: i is below 0", x.demand(c, LEAST), -3);
    }

    private static void ringIs(OrderMerge x, int c, int... row) {
        for (int i = 0; i < row.length; i++) {
            due("23: ring(" + c + ", " + i + ")", x.ring(c, i), row[i]);
        }
        for (int i : new int[] {row.length, row.length + 1, 10, MOST}) {
            due("23: not so many", x.ring(c, i), -1);
        }
        due("23: i is below 0", x.ring(c, -1), -3);
        due("23: i is below 0", x.ring(c, LEAST), -3);
    }

    private static void noParentsNoDemands() {
        OrderMerge x = Check.told("house mood 0;class;class;");
        for (int c = 0; c < 2; c++) {
            demandsAre(x, c);
            ringIs(x, c);
            due("24: one way", x.ways(c), 1);
            due("25: none ahead", x.rank(c), 0);
        }
    }

    /** "Of itself ahead of each of its PARENTS", not of theirs. */
    private static void itselfAheadOfParentsAlone() {
        OrderMerge x = Check.told("house mood 0;class;class 0;class 1;class 2;");
        demandsAre(x, 1, 10);
        demandsAre(x, 2, 10, 21);
        demandsAre(x, 3, 10, 20, 21, 32);
    }

    /** "As pairs (ahead, behind), each once, by the one ahead, then the one behind." */
    private static void eachOnce() {
        // 1 ahead of 0 by 1's order, by 2's order, by the row of the parents.
        OrderMerge x = Check.told("house mood 0;class;class 0;class 1;class 2 1 0;class 0;class 4 1;");
        demandsAre(x, 3, 10, 20, 21, 30, 31, 32);
        demandsAre(x, 5, 10, 40, 41, 51, 54);
        // Sorted by numbers, not as the parents come.
        OrderMerge y = Check.told("house mood 0;class;class;class;class;class 3 1 2 0;");
        demandsAre(y, 4, 10, 12, 20, 30, 31, 32, 40, 41, 42, 43);
    }

    private static void manyDemands() {
        OrderMerge x = Check.told(CHAIN + "class 8 7 6 5;");
        // All pairs of 8 .. 0 and itself ahead of four.
        due("21: 36 and 4", x.demands(9), 40);
        due("22: the first", x.demand(9, 0), 10);
        due("22: the last", x.demand(9, 39), 98);
        due("22: the one before", x.demand(9, 36), 95);
        due("22: not so many", x.demand(9, 40), -1);
        OrderMerge y = Check.told(CHAIN + "class 8;");
        due("21: 36 and 1", y.demands(9), 37);
    }

    private static void demandsOfRefusedAndLostOnes() {
        OrderMerge x = Check.told("house mood 0;class;class 0;class 0 1;class 2;class 1 2;class 3;");
        due("7: refused", x.state(2), 1);
        // 0 ahead of 1 by the row of the parents, 1 ahead of 0 by 1's order.
        demandsAre(x, 2, 1, 10, 20, 21);
        for (int c = 3; c <= 5; c++) {
            due("7: lost", x.state(c), 2);
            due("21: it is lost", x.demands(c), -1);
            due("22: it is lost", x.demand(c, 0), -1);
            due("22: it is lost", x.demand(c, MOST), -1);
            due("22: i, ahead of its being lost", x.demand(c, -1), -3);
            due("23: it is lost", x.ring(c, 0), -1);
            due("23: i, ahead of its being lost", x.ring(c, -1), -3);
            due("24: it is lost", x.ways(c), -1);
            due("25: it is lost", x.rank(c), -1);
        }
    }

    /** "The least: of the fewest CLASSES": two ahead of three, three ahead of four. */
    private static void ringsOfTheFewest() {
        OrderMerge two = Check.told("house mood 0;class;class 0;class 0 1;");
        ringIs(two, 2, 0, 1);
        OrderMerge three = Check.told("house mood 0;class;class;class;class 0 1;class 1 2;class 2 0;class 3 4 5;");
        ringIs(three, 6, 0, 1, 2);
        OrderMerge twoBehindThree = Check.told("house mood 0;class;class;class;class;class 0 1 3;class 1 2;class 2 0;"
            + "class 3 1;class 4 5 6 7;");
        // 1 ahead of 3 by 4's order, 3 ahead of 1 by 7's; 0 1 2 by 4, 5 and 6.
        ringIs(twoBehindThree, 8, 1, 3);
        OrderMerge four = Check.told("house mood 0;class;class;class;class;class 0 1;class 1 2;class 2 3;class 3 0;"
            + "class 4 5 6 7;");
        ringIs(four, 8, 0, 1, 2, 3);
    }

    /** "Of like ones the first by CLASSES, beginning with its least one." */
    private static void ringsByClasses() {
        OrderMerge x = Check.told("house mood 0;class;class;class;class;class 3 2 1 0;class 0 1 2 3;class 4 5;");
        ringIs(x, 6, 0, 1);
        OrderMerge y = Check.told("house mood 0;class;class;class;class;class 0 3 2;class 2 3 0;class 4 5;");
        ringIs(y, 6, 0, 2);
        OrderMerge z = Check.told("house mood 0;class;class;class;class;class 1 3 2;class 0 2 3;class 5 4;");
        ringIs(z, 6, 2, 3);
        // Against the other hand it begins with the least one, too.
        OrderMerge w = Check.told("house mood 0;class;class;class;class 2 1;class 1 0;class 0 2;class 3 4 5;");
        ringIs(w, 6, 0, 2, 1);
        OrderMerge v = Check.told("house mood 0;class;class;class;class;class 3 2;class 2 1;class 1 3;class 4 5 6;");
        ringIs(v, 7, 1, 3, 2);
        // Rings 0 2 1 and 0 2 3: the first by its third one.
        OrderMerge u = Check.told("house mood 0;class;class;class;class;class 0 2;class 2 1;class 1 3 0;class 2 3;"
            + "class 4 5 6 7;");
        ringIs(u, 8, 0, 2, 1);
    }

    /** Each call finds out by itself what binds a class. */
    private static void askedFirst() {
        String text = "house mood 0;class;class 0;class 0 1;class;";
        due("21: asked first", Check.told(text).demands(2), 4);
        due("22: asked first", Check.told(text).demand(2, 3), 21);
        due("23: asked first", Check.told(text).ring(2, 1), 1);
        due("24: asked first", Check.told(text).ways(1), 1);
        due("27: asked first", Check.told(text).breaks(2, 1), 1);
        OrderMerge x = Check.told(text);
        due("21: of another one", x.demands(3), 0);
        due("22: behind another one", x.demand(2, 0), 1);
        due("21: of another one", x.demands(3), 0);
        due("23: behind another one", x.ring(2, 0), 0);
        due("21: of another one", x.demands(3), 0);
        due("27: behind another one", x.breaks(2, 1), 1);
    }

    private static void noRing() {
        OrderMerge x = Check.told("house mood 0;class;class 0;class 0;class 1 2;class 3 0;");
        for (int c = 0; c < 5; c++) {
            due("7: it has an order", x.state(c), 0);
            ringIs(x, c);
        }
    }

    /** "In how many ways it and its ancestors could stand in a row that meets all DEMANDS." */
    private static void waysAndRanks() {
        OrderMerge x = Check.told(CHAIN + "class 8;");
        for (int c = 0; c < 10; c++) {
            due("24: a chain", x.ways(c), 1);
            due("25: a chain", x.rank(c), 0);
        }
        OrderMerge y = Check.told("house mood 0;class;class;class 0;class 1;class 2 3;class;class;");
        // 4 2, then 0 woven with 3 1; the classes beside it don't count.
        due("24: three", y.ways(4), 3);
        OrderMerge z = Check.told("house mood 0;class;class 0;class 0 1;class 2;");
        due("24: a ring: none", z.ways(2), 0);
        due("25: refused", z.rank(2), -1);
        due("24: lost", z.ways(3), -1);
        due("25: lost", z.rank(3), -1);
    }

    /** "How many of these rows are ahead of its ORDER, place by place by CLASSES." */
    private static void ranksFromFirstToLast() {
        // Behind 6 and 4: 2 1 5, its order, then 2 5 1 and 5 2 1.
        OrderMerge first = Check.told("house mood 0;class;class;class;class;class 2 1;class;class 4 5;");
        due("24: three", first.ways(6), 3);
        due("25: the first", first.rank(6), 0);
        // Behind 6 and 4: 2 3, then 3 2, its order.
        OrderMerge second = Check.told("house mood 0;class;class;class;class;class 3;class;class 4 2;");
        due("8: its order", second.order(6, 2), 3);
        due("24: two", second.ways(6), 2);
        due("25: the last of two", second.rank(6), 1);
        // Behind 8 and 6: 5 4 woven with 2 1 0; 5 4 2 1 0 is its order.
        OrderMerge last = Check.told("house mood 0;class;class;class 1 0;class;class;class;class 5 4;class;class 6 2;");
        due("8: its order", last.order(8, 2), 5);
        due("25: the last of ten, asked first", last.rank(8), 9);
        due("24: 2 1 0 among 5 4", last.ways(8), 10);
        due("24: another one", last.ways(6), 1);
        due("25: the last of ten", last.rank(8), 9);
        due("22: asked behind another one", last.demand(8, 0), 10);
        due("23: asked behind another one", last.ring(8, 0), -1);
    }

    private static void oldIs(OrderMerge x, int c, int kind, int... row) {
        for (int i = 0; i < row.length; i++) {
            due("26: old(" + c + ", " + kind + ", " + i + ")", x.old(c, kind, i), row[i]);
        }
        for (int i : new int[] {row.length, 10, 11, MOST}) {
            due("26: not so many: old(" + c + ", " + kind + ", " + i + ")", x.old(c, kind, i), -1);
        }
        due("26: the place is below 0", x.old(c, kind, -1), -3);
    }

    /** "1: by depth .. of like ones the first stays; 2: as 1, of like ones the last stays." */
    private static void oldOrdersByDepth() {
        OrderMerge x = Check.told("house mood 0;class;class 0;class 0;class 1 2;class 2 1 0;class 3 4;");
        oldIs(x, 0, 1, 0);
        oldIs(x, 0, 2, 0);
        oldIs(x, 3, 1, 3, 1, 0, 2);
        oldIs(x, 3, 2, 3, 1, 2, 0);
        oldIs(x, 4, 1, 4, 2, 0, 1);
        oldIs(x, 4, 2, 4, 2, 1, 0);
        // 5, 3 1 0 2, 4 2 0 1 and 5, 3 1 2 0, 4 2 1 0.
        due("7: refused", x.state(5), 1);
        oldIs(x, 5, 1, 5, 3, 1, 0, 2, 4);
        oldIs(x, 5, 2, 5, 3, 4, 2, 1, 0);
    }

    /** "3: by breadth: itself, then PARENTS, then their PARENTS as they come .. the first stays." */
    private static void oldOrdersByBreadth() {
        OrderMerge x = Check.told("house mood 0;class;class 0;class 0;class 1 2;class 2 1 0;class 3 4;class 5;class 0 6;");
        oldIs(x, 0, 3, 0);
        oldIs(x, 3, 3, 3, 1, 2, 0);
        oldIs(x, 4, 3, 4, 2, 1, 0);
        oldIs(x, 5, 3, 5, 3, 4, 1, 2, 0);
        // Of a lost one, too.
        due("7: lost", x.state(6), 2);
        oldIs(x, 6, 3, 6, 5, 3, 4, 1, 2, 0);
        oldIs(x, 6, 1, 6, 5, 3, 1, 0, 2, 4);
        oldIs(x, 7, 3, 7, 0, 6, 5, 3, 4, 1, 2);
        oldIs(x, 7, 2, 7, 6, 5, 3, 4, 2, 1, 0);
    }

    private static void oldOrdersOfAChain() {
        OrderMerge x = Check.told(CHAIN + "class 8 7 6 5;");
        for (int kind = 1; kind <= 3; kind++) {
            for (int i = 0; i <= 10; i++) {
                due("26: a chain, kind " + kind, x.old(9, kind, i), 9 - i);
            }
        }
    }

    /** "How many DEMANDS its OLD ORDER breaks. NONE: it is LOST." */
    private static void breaks() {
        OrderMerge x = Check.told("house mood 0;class;class 0;class 0;class 1 2;class 2 1 0;class 3 4;class 5;");
        due("27: 2 ahead of 0", x.breaks(3, 1), 1);
        due("27: none", x.breaks(3, 2), 0);
        due("27: none", x.breaks(3, 3), 0);
        due("27: 1 ahead of 0", x.breaks(4, 1), 1);
        due("27: without parents", x.breaks(0, 1), 0);
        // 5 is refused, 1 ahead of 2 and 2 ahead of 1 among its demands: one of both is broken always.
        due("27: 2 0, 2 1, 4 0, 4 1, 4 2", x.breaks(5, 1), 5);
        due("27: 1 2", x.breaks(5, 2), 1);
        due("27: 2 1", x.breaks(5, 3), 1);
        for (int kind = 1; kind <= 3; kind++) {
            due("27: it is lost", x.breaks(6, kind), -1);
        }
    }

    /** "CLASSES whose OLD ORDER is their ORDER, as bits." */
    private static void same() {
        OrderMerge x = Check.told("house mood 0;class;class 0;class 0;class 1 2;class 2 1 0;class 3 4;class 5;");
        due("28: neither refused nor lost ones", x.same(1), 0b0000111);
        due("28: neither refused nor lost ones", x.same(2), 0b0011111);
        due("28: neither refused nor lost ones", x.same(3), 0b0011111);
        OrderMerge y = Check.told(CHAIN + "class 8;");
        OrderMerge none = Check.told("house mood 0;");
        for (int kind = 1; kind <= 3; kind++) {
            due("28: all ten", y.same(kind), 1023);
            due("28: of none", none.same(kind), 0);
        }
    }

    private static void codes() {
        OrderMerge x = Check.told("house mood 0;class;class 0;class 0 1;class 2;");
        for (int c : new int[] {-1, 4, 9, 10, LEAST, MOST}) {
            due("21: no such class", x.demands(c), -2);
            due("22: no such class, told first", x.demand(c, -1), -2);
            due("23: no such class, told first", x.ring(c, -1), -2);
            due("24: no such class", x.ways(c), -2);
            due("25: no such class", x.rank(c), -2);
            for (int kind = 0; kind <= 4; kind++) {
                due("26: no such class, told first", x.old(c, kind, -1), -2);
                due("27: no such class", x.breaks(c, kind), -2);
            }
        }
        for (int kind : new int[] {0, 4, -1, LEAST, MOST}) {
            for (int c = 0; c < 4; c++) {
                due("26: no such kind", x.old(c, kind, 0), -2);
                due("26: no such kind, told first", x.old(c, kind, -1), -2);
                due("27: no such kind, ahead of its being lost", x.breaks(c, kind), -2);
            }
            due("28: no such kind", x.same(kind), -2);
        }
    }
}
