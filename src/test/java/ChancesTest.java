/** Promises 42 and 43: chance, mean. */
public final class ChancesTest {
    private static final Check CHECK = new Check();

    public static void main(String[] args) {
        chances();
        byAllDraws();
        codes();
        CHECK.end();
    }

    private static void due(String what, long got, long want) {
        CHECK.due(what, got, want);
    }

    private static void chanceIs(OrderMerge x, int n, int over, int under) {
        due("42: chance(" + n + ", 0)", x.chance(n, 0), over);
        due("42: chance(" + n + ", 1)", x.chance(n, 1), under);
    }

    private static void meanIs(OrderMerge x, int n, int over, int under) {
        due("43: mean(" + n + ", 0)", x.mean(n, 0), over);
        due("43: mean(" + n + ", 1)", x.mean(n, 1), under);
    }

    private static void chances() {
        OrderMerge none = new OrderMerge();
        chanceIs(none, 0, 1, 1);
        chanceIs(none, 3, 1, 1);
        meanIs(none, 0, 0, 1);
        meanIs(none, 3, 0, 1);
        OrderMerge x = Check.told("house mood 0;class;class 0;class 0 1;class 2;");
        // Lot 2 alone mends 2 and 3, a second one spoils it again.
        chanceIs(x, 0, 0, 1);
        meanIs(x, 0, 2, 1);
        chanceIs(x, 1, 1, 10);
        meanIs(x, 1, 11, 5);
        chanceIs(x, 2, 9, 50);
        meanIs(x, 2, 59, 25);
        // Once of three: 3 * 81; thrice: 1.
        chanceIs(x, 3, 61, 250);
        meanIs(x, 3, 311, 125);
        due("42: nothing is done", x.state(2), 1);
        due("42: nothing to undo", x.count(6), 0);
        x.swap(2, 0);
        chanceIs(x, 1, 9, 10);
    }

    /** Swaps each draw's parents by swap() itself, which undo() takes back. */
    private static void byAllDraws() {
        String text = "house mood 0;class;class;class 0 1;class 1 0;class 2 3 0;class 1;class 5 2 1;class 4;class 6 5;";
        for (int n = 0; n <= 2; n++) {
            OrderMerge x = Check.told(text);
            int draws = n == 0 ? 1 : n == 1 ? 10 : 100;
            int all = 0;
            int ordered = 0;
            for (int draw = 0; draw < draws; draw++) {
                OrderMerge y = Check.told(text);
                for (int i = 0, rest = draw; i < n; i++, rest /= 10) {
                    y.swap(rest % 10, 0);
                }
                ordered += Integer.bitCount(y.count(4));
                all += y.count(4) == 511 ? 1 : 0;
            }
            due("42: crosswise", (long) x.chance(n, 0) * draws, (long) all * x.chance(n, 1));
            due("43: crosswise", (long) x.mean(n, 0) * draws, (long) ordered * x.mean(n, 1));
        }
    }

    private static void codes() {
        OrderMerge x = Check.told("house mood 0;class;");
        due("42: n", x.chance(-1, 0), -3);
        due("42: n", x.chance(4, 1), -3);
        due("42: what", x.chance(0, 2), -2);
        due("42: what ahead of n", x.chance(4, -1), -2);
        due("43: n", x.mean(-1, 0), -3);
        due("43: n", x.mean(4, 1), -3);
        due("43: what", x.mean(0, 2), -2);
        due("43: what ahead of n", x.mean(-1, -1), -2);
    }
}
