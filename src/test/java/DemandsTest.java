/** Promises 21 to 25: demands, demand, ring, ways, rank. */
public final class DemandsTest {
    private static final Check CHECK = new Check();

    public static void main(String[] args) {
        demands();
        rings();
        waysAndRanks();
        codes();
        CHECK.end();
    }

    private static void due(String what, long got, long want) {
        CHECK.due(what, got, want);
    }

    private static void demandsAre(OrderMerge x, int c, int... pairs) {
        due("21: demands(" + c + ")", x.demands(c), pairs.length);
        for (int i = 0; i < pairs.length; i++) {
            due("22: demand(" + c + ", " + i + ")", x.demand(c, i), pairs[i]);
        }
        due("22: not so many", x.demand(c, pairs.length), -1);
        due("22: not nearly so many", x.demand(c, Integer.MAX_VALUE), -1);
    }

    private static void demands() {
        OrderMerge x = Check.told("house mood 0;class;class;class 0 1;class 1 0;class 2 3;class 1;class 5 2;");
        demandsAre(x, 0);
        demandsAre(x, 2, 1, 20, 21);
        demandsAre(x, 4, 1, 10, 20, 21, 23, 30, 31, 42, 43);
        demandsAre(x, 5, 51);
        // Itself ahead of its parents alone; its parents' orders tell the rest.
        demandsAre(x, 6, 1, 20, 21, 51, 52, 62, 65);
    }

    private static void ringIs(OrderMerge x, int c, int... row) {
        for (int i = 0; i < row.length; i++) {
            due("23: ring(" + c + ", " + i + ")", x.ring(c, i), row[i]);
        }
        due("23: the end of ring(" + c + ")", x.ring(c, row.length), -1);
    }

    private static void rings() {
        OrderMerge x = Check.told("house mood 0;class;class;class;class 0 1;class 1 2;class 2 0;class 3 4 5;class 6;");
        ringIs(x, 6, 0, 1, 2);
        ringIs(x, 5);
        ringIs(x, 7);
        // Against the other hand: 0 ahead of 2, 2 ahead of 1, 1 ahead of 0.
        OrderMerge y = Check.told("house mood 0;class;class;class;class 1 0;class 2 1;class 0 2;class 3 4 5;");
        ringIs(y, 6, 0, 2, 1);
        // Rings of two are less than one of three, and of these the first: 1 and 2, not 2 and 3.
        OrderMerge z = Check.told("house mood 0;class;class;class;class;class 3 2 1;class 1 2 3;class 4 5;");
        ringIs(z, 6, 1, 2);
        // A parent that is ahead of its own heir.
        OrderMerge w = Check.told("house mood 0;class;class;class 1;class 1 2;");
        ringIs(w, 3, 1, 2);
        // A ring of four: no two and no three of its demands close one.
        OrderMerge v = Check.told("house mood 0;class;class;class;class;class 0 3;class 3 1;class 1 2;class 2 0;"
            + "class 4 5 6 7;");
        due("7: refused", v.state(8), 1);
        ringIs(v, 8, 0, 3, 1, 2);
    }

    private static void waysAndRanks() {
        OrderMerge x = Check.told("house mood 0;class;class;class;class;class 3 2 1 0;class;class 0 5;class 3 1;class 7 6;");
        due("24: alone", x.ways(0), 1);
        due("25: alone", x.rank(0), 0);
        due("24: a row", x.ways(4), 1);
        due("25: a row", x.rank(4), 0);
        // 8 7 then 3 1 and 6 0 5 woven, 7 ahead of 6: C(5, 2) rows.
        due("24: woven", x.ways(8), 10);
        due("8: its order", x.order(8, 2), 3);
        due("8: its order", x.order(8, 3), 1);
        due("8: its order", x.order(8, 4), 6);
        // 3 first (all that begin with 3 come ahead of those with 6), then 1 ahead of 6: the first.
        due("25: the first", x.rank(8), 0);
        OrderMerge y = Check.told("house mood 0;class;class;class;class 2;class 1;class 0;class 3 4;class 6 5;");
        due("8: order of 6", y.order(6, 1), 3);
        due("8: order of 6", y.order(6, 2), 2);
        due("24: 6 3 2 4 1 woven in one of two ways", y.ways(6), 3);
        due("25: 2 4 1 is the first of 2 4 1, 4 1 2, 4 2 1", y.rank(6), 0);
        OrderMerge z = Check.told("house mood 0;class;class;class 1;class 0;class 2 3;");
        // 4 2 1 3 0 is the order; ahead of 3 1 0, 3 0 1: 1 3 0.
        due("24: three", z.ways(4), 3);
        due("25: none ahead", z.rank(4), 0);
        OrderMerge w = Check.told("house mood 0;class;class;class;class;class 3;class 0;class 4 5;");
        // 6 4 3 5 0; 6 4 5 0 3, 6 4 5 3 0 are behind it.
        due("24: three", w.ways(6), 3);
        due("25: none ahead", w.rank(6), 0);
        OrderMerge v = Check.told("house mood 0;class;class;class;class;class 0;class 1;class;class 6;class 7 5;");
        // 8 7 6 5 1; the rows 8 7 5 1 6, 8 7 5 6 1 are ahead.
        due("24: three", v.ways(8), 3);
        due("25: two ahead", v.rank(8), 2);
        OrderMerge most = Check.told("house mood 0;class;class;class;class;class;class;class 5 4;class 3 2;class 1 0;"
            + "class 6 7 8;");
        // 9 6, then 5 4 woven with 7 (3 2 woven with 8 1 0): C(8, 2) * C(5, 2).
        due("24: many", most.ways(9), 280);
        due("24: refused", Check.told("house mood 0;class;class;class 0 1;class 1 0;class 2 3;").ways(4), 0);
    }

    private static void codes() {
        OrderMerge x = Check.told("house mood 0;class;class 0;class 0 1;class 2;");
        due("21: class", x.demands(4), -2);
        due("21: class", x.demands(-1), -2);
        due("21: lost", x.demands(3), -1);
        due("22: class ahead of i", x.demand(4, -1), -2);
        due("22: i ahead of lost", x.demand(3, -1), -3);
        due("22: i", x.demand(0, -1), -3);
        due("22: lost", x.demand(3, 0), -1);
        due("23: class ahead of i", x.ring(-1, -1), -2);
        due("23: i ahead of lost", x.ring(3, -1), -3);
        due("23: lost", x.ring(3, 0), -1);
        due("24: class", x.ways(4), -2);
        due("24: lost", x.ways(3), -1);
        due("24: refused", x.ways(2), 0);
        due("25: class", x.rank(4), -2);
        due("25: lost", x.rank(3), -1);
        due("25: refused", x.rank(2), -1);
    }
}
