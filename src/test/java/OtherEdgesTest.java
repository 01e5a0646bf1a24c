/**
 * Promises 34 to 39 and what a LINK is, sentence by sentence: each case that the document names.
 */
public final class OtherEdgesTest {
    private static final int LEAST = Integer.MIN_VALUE;
    private static final int MOST = Integer.MAX_VALUE;
    private static final String CHAIN = "house mood 0;class;class 0;class 1;class 2;class 3;class 4;class 5;class 6;"
        + "class 7;class 8;";
    private static final Check CHECK = new Check();

    public static void main(String[] args) {
        commonOnes();
        commonCodes();
        wouldWithNoneToFour();
        wouldBeTheEleventh();
        wouldStates();
        wouldRefusedNumbers();
        wouldWays();
        wouldTellsWhatIsDone();
        noRepairs();
        oneToThreeRepairs();
        notBySoFew();
        linksByPlace();
        repairsFollowDeeds();
        CHECK.end();
    }

    private static void due(String what, long got, long want) {
        CHECK.due(what, got, want);
    }

    /** "The first in the ORDER of a that is in that of b, too. NONE: there is none." */
    private static void commonOnes() {
        OrderMerge x = Check.told("house mood 0;class;class;class 0 1;class 1 0;class 2;class;");
        for (int c = 0; c < 6; c++) {
            due("34: itself", x.common(c, c), c);
        }
        due("34: in the order of a", x.common(2, 3), 0);
        due("34: in the order of a", x.common(3, 2), 1);
        due("34: an heir and its parent", x.common(4, 2), 2);
        due("34: a parent and its heir", x.common(2, 4), 2);
        due("34: the last of a", x.common(4, 1), 1);
        due("34: there is none", x.common(0, 1), -1);
        due("34: there is none", x.common(5, 4), -1);
        due("34: there is none", x.common(4, 5), -1);
        OrderMerge y = Check.told(CHAIN);
        for (int a = 0; a < 10; a++) {
            for (int b = 0; b < 10; b++) {
                due("34: a chain", y.common(a, b), Math.min(a, b));
            }
        }
    }

    private static void commonCodes() {
        OrderMerge x = Check.told("house mood 0;class;class 0;class 0 1;class 2;");
        for (int c : new int[] {-1, 4, 9, 10, LEAST, MOST}) {
            for (int d = 0; d < 4; d++) {
                due("34: no such class, ahead of no order", x.common(c, d), -2);
                due("34: no such class, ahead of no order", x.common(d, c), -2);
            }
            due("34: both", x.common(c, c), -2);
        }
        for (int c = 2; c < 4; c++) {
            for (int d = 0; d < 4; d++) {
                due("34: one has no order", x.common(c, d), -5);
                due("34: one has no order", x.common(d, c), -5);
            }
        }
    }

    private static void wouldIs(OrderMerge x, int state, int ways, int... row) {
        due("35: would", x.would(1), state);
        due("37: wouldWays", x.wouldWays(1), ways);
        for (int i = 0; i < row.length; i++) {
            due("36: place " + (i + 1), x.wouldOrder(1, i + 1), row[i]);
        }
        for (int place : new int[] {row.length + 1, 11, 12, MOST}) {
            due("36: not so many: " + place, x.wouldOrder(1, place), -1);
        }
        for (int place : new int[] {0, -1, LEAST}) {
            due("36: the place is below 1", x.wouldOrder(1, place), -3);
        }
    }

    /** "A new CLASS with the PARENTS of a TRAY (0 to 4 unlike CLASSES)." */
    private static void wouldWithNoneToFour() {
        OrderMerge x = Check.told("house mood 0;class;class;class;class;class;class 0;");
        Check.fill(x, 1, 0);
        wouldIs(x, 0, 1);
        Check.fill(x, 1, 0, 4);
        wouldIs(x, 0, 1, 4);
        Check.fill(x, 1, 1, 5);
        wouldIs(x, 0, 1, 5, 0);
        Check.fill(x, 1, 2, 4, 1);
        wouldIs(x, 0, 2, 4, 1);
        Check.fill(x, 1, 3, 5, 1, 0);
        wouldIs(x, 0, 3, 5, 1, 0);
        Check.fill(x, 1, 0, 3, 1, 2, 0);
        wouldIs(x, 0, 24, 3, 1, 2, 0);
        for (int n = 5; n <= 40; n += 7) {
            x.numbers(1, 0, n);
            due("35: more than 4 numbers", x.would(1), -4);
            due("36: more than 4 numbers", x.wouldOrder(1, 0), -4);
            due("37: more than 4 numbers", x.wouldWays(1), -4);
        }
        Check.fill(x, 1, 0, 0, 1, 2, 3, 4);
        due("35: five", x.would(1), -4);
    }

    private static void wouldBeTheEleventh() {
        OrderMerge x = Check.told(CHAIN);
        Check.fill(x, 1, 0, 9);
        wouldIs(x, 0, 1, 9, 8, 7, 6, 5, 4, 3, 2, 1, 0);
        Check.fill(x, 1, 0, 9, 8, 1, 0);
        wouldIs(x, 0, 1, 9, 8, 7, 6, 5, 4, 3, 2, 1, 0);
        due("35: it hasn't come", x.count(0), 10);
        due("35: it hasn't come", x.state(10), -2);
        due("35: the others stay", x.count(4), 1023);
    }

    private static void wouldStates() {
        OrderMerge x = Check.told("house mood 0;class;class 0;class 0 1;class 2;class;");
        Check.fill(x, 1, 0, 0, 1);
        wouldIs(x, 1, 1);
        due("36: there would be none", x.wouldOrder(1, 1), -1);
        Check.fill(x, 1, 0, 2);
        wouldIs(x, 2, 0);
        Check.fill(x, 1, 0, 4, 3);
        wouldIs(x, 2, 0);
        // Lost, were its own demands at odds, too.
        Check.fill(x, 1, 0, 0, 1, 2);
        wouldIs(x, 2, 0);
        due("7: those there stay", x.state(2), 1);
    }

    /** "-3: one is no CLASS, stands twice." */
    private static void wouldRefusedNumbers() {
        OrderMerge x = Check.told("house mood 0;class;class;class;class;");
        long[][] bad = {{4}, {-1}, {10}, {0, 4}, {4, 0}, {0, 1, 2, 4}, {0, 0}, {0, 1, 0}, {0, 1, 2, 0}, {3, 1, 2, 1}, {2, 1, 3, 3},
            {1L << 32}, {1L << 40 | 1}, {Long.MIN_VALUE}, {Long.MAX_VALUE}, {0, 1L << 32 | 1}, {-4294967296L}};
        for (long[] row : bad) {
            Check.fill(x, 0, 3, row);
            due("35: no class, or twice", x.would(0), -3);
            due("36: no class, or twice", x.wouldOrder(0, 1), -3);
            due("36: no class, or twice, and the place", x.wouldOrder(0, 0), -3);
            due("37: no class, or twice", x.wouldWays(0), -3);
        }
        for (int tray : new int[] {-1, 4, LEAST, MOST}) {
            due("35: the tray", x.would(tray), -2);
            due("36: the tray", x.wouldOrder(tray, 0), -2);
            due("37: the tray", x.wouldWays(tray), -2);
        }
        for (int tray = 1; tray < 4; tray++) {
            due("35: missing", x.would(tray), -6);
            due("36: missing", x.wouldOrder(tray, 0), -6);
            due("37: missing", x.wouldWays(tray), -6);
        }
        // Of 8 bits 256 and 3 is 3, of 16 it isn't.
        Check.fill(x, 2, 0, 259);
        due("35: as it is there", x.would(2), 0);
        Check.fill(x, 2, 1, 259);
        due("35: as it is there", x.would(2), -3);
    }

    /** "In how many orders of the PARENTS .. a new CLASS would have an ORDER": each asked by itself. */
    private static void wouldWays() {
        long[][] sets = {{3, 4}, {3, 0}, {0, 1, 2}, {1, 2, 3, 0}, {5, 6, 3}, {5, 6, 1, 2}, {5, 0, 1, 6}};
        for (long[] set : sets) {
            OrderMerge x = Check.told("house mood 0;class;class 0;class 0;class 1 2;class 2 1;class;class 5;");
            Check.fill(x, 0, 2, set);
            due("37: asked one by one", x.wouldWays(0), ordersThatWould(x, set));
        }
    }

    private static int ordersThatWould(OrderMerge x, long[] set) {
        int found = 0;
        for (int code = 0; code < 1 << 2 * set.length; code++) {
            long[] row = new long[set.length];
            int used = 0;
            for (int i = 0; i < set.length; i++) {
                int from = (code >> 2 * i & 3) % set.length;
                used |= 1 << from;
                row[i] = (code >> 2 * i & 3) < set.length ? set[from] : -1;
            }
            if (used == (1 << set.length) - 1) {
                Check.fill(x, 3, 0, row);
                found += x.would(3) == 0 ? 1 : 0;
            }
        }
        return found;
    }

    /** What would be is what comes of it, if a class is given those parents. */
    private static void wouldTellsWhatIsDone() {
        String text = "house mood 0;class;class 0;class 0;class 1 2;class 2 1;class 0 2;class;class;";
        for (int a = 0; a < 7; a++) {
            for (int b = 0; b < 7; b++) {
                if (a == b) {
                    continue;
                }
                OrderMerge x = Check.told(text);
                Check.fill(x, 0, 0, a, b);
                int state = x.would(0);
                int[] row = new int[9];
                for (int i = 1; i < 9; i++) {
                    row[i] = x.wouldOrder(0, i);
                }
                x.give(7, a);
                due("35: as given " + a + ", " + b, state, x.give(7, b));
                for (int i = 1; i < 9; i++) {
                    due("36: as given " + a + ", " + b, row[i], x.order(7, i));
                }
            }
        }
    }

    private static void repairIs(OrderMerge x, int... links) {
        due("38: repairs", x.repairs(), links.length);
        for (int i = 0; i < links.length; i++) {
            due("39: repair(" + i + ")", x.repair(i), links[i]);
        }
        for (int i : new int[] {links.length, links.length + 1, 3, 4, MOST}) {
            due("39: not so many", x.repair(i), -1);
        }
        due("39: i is below 0", x.repair(-1), -3);
        due("39: i is below 0", x.repair(LEAST), -3);
    }

    private static void noRepairs() {
        repairIs(new OrderMerge());
        repairIs(Check.told("house mood 0;"));
        repairIs(Check.told("house mood 0;class;"));
        repairIs(Check.told(CHAIN));
    }

    /** "How many (0 to 3)", "the first such ones by numbers of LINKS". */
    private static void oneToThreeRepairs() {
        repairIs(Check.told("house mood 0;class;class 0;class 0 1;"), 10);
        repairIs(Check.told("house mood 0;class;class 0;class 0 1;class;class 3;class 3 4;"), 10, 43);
        repairIs(Check.told("house mood 0;class;class 0;class 0 1;class;class 3;class 3 4;class;class 6;class 6 7;"),
            10, 43, 76);
        // Those that were lost by it are mended with it, or are refused themselves then.
        repairIs(Check.told("house mood 0;class;class 0;class 0 1;class 2;class 3;class 4 2;"), 10);
        repairIs(Check.told("house mood 0;class;class 0;class 0 1;class 2;class 3;class 2 4;"), 10, 32);
    }

    private static void notBySoFew() {
        OrderMerge four = Check.told("house mood 0;class;class 0;class 0;class 0;class 0;class 0 1;class 0 2;class 0 3;"
            + "class 0 4;");
        due("49: four are refused", four.count(5), 0b111100000);
        due("38: not by so few", four.repairs(), -1);
        for (int i = 0; i < 5; i++) {
            due("39: not by so few", four.repair(i), -1);
        }
        due("39: i, ahead of it", four.repair(-1), -3);
        due("39: i, ahead of it", four.repair(LEAST), -3);
        due("13: one is mended", four.take(6, 2), 0);
        repairIs(four, 10, 30, 40);
    }

    /** "Numbered by the CLASS, then by the place of the PARENT", not by its number. */
    private static void linksByPlace() {
        OrderMerge x = Check.told("house mood 0;class;class;class 1 0;class 0 1;class 2 3;");
        repairIs(x, 21);
        x.swap(2, 0);
        repairIs(x);
        x.swap(3, 0);
        repairIs(x, 20);
        // The first link of all that would do is that of 3 to 2.
        repairIs(Check.told("house mood 0;class;class;class;class 2 0;class 0 2;class 3 4;"), 32);
    }

    private static void repairsFollowDeeds() {
        OrderMerge x = Check.told("house mood 0;class;class 0;class 1 0;class;class 3;class 4 3;");
        repairIs(x);
        x.swap(2, 0);
        repairIs(x, 10);
        x.swap(5, 0);
        repairIs(x, 10, 43);
        x.image(0);
        x.undo(1);
        repairIs(x, 10);
        x.restore(0);
        repairIs(x, 10, 43);
        Check.fill(x, 0, 1, 210, 243);
        due("19: taken", x.perform(0), 2);
        repairIs(x);
        due("49: what the repair promised", x.count(4), 0b111111);
    }
}
