import java.util.Arrays;

/**
 * Promises 40 to 43 and what is TOLD and CHANCE, sentence by sentence: each case that the document
 * names.
 */
public final class ToldEdgesTest {
    private static final int LEAST = Integer.MIN_VALUE;
    private static final int MOST = Integer.MAX_VALUE;
    private static final Check CHECK = new Check();

    public static void main(String[] args) {
        oneToEightNumbers();
        eachMood();
        whatCanBeTold();
        readByItsDigits();
        whatWouldBeIsNotTold();
        callsToNone();
        theMoodStays();
        toldCodes();
        leastOfTheGreatest();
        theFirstOfLikeOnes();
        toNoneIsOneAnswer();
        ofTheseMoodsAlone();
        moodZeroCounts();
        noneAreLeft();
        noLots();
        lotsThatDoNothing();
        swappedAndBack();
        sureAndNever();
        lowestTerms();
        chanceCodes();
        CHECK.end();
    }

    private static void due(String what, long got, long want) {
        CHECK.due(what, got, want);
    }

    private static long told(int c, int m, int says) {
        return 10000000L * c + 100000L * m + says + 50000;
    }

    private static int moods(OrderMerge x, long... numbers) {
        Check.fill(x, 1, 3, numbers);
        return x.moods(1);
    }

    private static int attempt(OrderMerge x, long... numbers) {
        Check.fill(x, 1, 3, numbers);
        return x.attempt(1);
    }

    /** "TOLD in a TRAY (1 to 8 numbers ..)", "-4: not 1 to 8 numbers". */
    private static void oneToEightNumbers() {
        String text = "house mood 0;class;method 0 in 0 ends;says:mood;";
        for (int n = 0; n <= 40; n++) {
            OrderMerge x = Check.told(text);
            x.numbers(0, 2, n);
            for (int i = 0; i < n; i++) {
                x.write(0, i, told(0, 0, 6));
            }
            boolean fits = n >= 1 && n <= 8;
            due("40: " + n + " numbers", x.moods(0), fits ? 64 : -4);
            due("41: " + n + " numbers", x.attempt(0), fits ? 0 : -4);
        }
        // Each of the numbers counts, the last one, too.
        OrderMerge x = Check.told(text);
        for (int n = 1; n <= 8; n++) {
            long[] numbers = new long[n];
            Arrays.fill(numbers, told(0, 0, 6));
            numbers[n - 1] = told(0, 0, 7);
            due("40: the last of " + n, moods(x, numbers), n == 1 ? 128 : 0);
        }
    }

    /** "MOODS 0 to 9 by which it is so." */
    private static void eachMood() {
        OrderMerge x = Check.told("house mood 3;class;class 0;method 0 in 0 ends;method 1 in 0 ends;"
            + "says:if method=0 then mood else 5 end;");
        for (int mood = 0; mood <= 9; mood++) {
            due("40: mood " + mood, moods(x, told(0, 0, mood)), 1 << mood);
            due("40: mood " + mood, moods(x, told(1, 0, mood), told(1, 1, 5)), 1 << mood);
        }
        due("40: all", moods(x, told(1, 1, 5)), 1023);
        due("40: none", moods(x, told(1, 1, 6)), 0);
        due("40: none", moods(x, told(0, 0, 10)), 0);
        due("40: none", moods(x, told(0, 0, 1), told(0, 0, 2)), 0);
    }

    /** "What is told is -50,000 to 49,999." */
    private static void whatCanBeTold() {
        OrderMerge x = Check.told("house mood 0;class;method 0 in 0 ends;says:if mood=0 then 0-500*100 else if mood=1 then 500*100-1"
            + " else if mood=2 then 500*100 else if mood=3 then 0-500*100-1 else 0 end end end end;");
        due("29: -50,000", x.call(0, 0), -50000);
        due("40: -50,000", moods(x, told(0, 0, -50000)), 1);
        due("40: 49,999", moods(x, told(0, 0, 49999)), 2);
        due("40: 0", moods(x, told(0, 0, 0)), 1023 - 15);
        // 50,000 is read as -50,000 of the next method, -50,001 is below 0.
        due("40: 50,000", moods(x, told(0, 0, 50000)), 0);
        due("40: -50,001", moods(x, told(0, 0, -50001)), -3);
    }

    /** "It is read by its digits." */
    private static void readByItsDigits() {
        OrderMerge x = Check.told("house mood 0;class;class;class;class;class;class;class;class;class;class;method 7 in 9 ends;"
            + "method 0 in 9 ends;method 7 in 0 ends;says:in*10+method;");
        due("40: 9 7 97", moods(x, 90750097L), 1023);
        due("40: 9 0 90", moods(x, 90050090L), 1023);
        due("40: 0 7 7", moods(x, 750007L), 1023);
        due("40: method 8", moods(x, 90850000L), -3);
        due("40: method 10", moods(x, 91050000L), -3);
        due("40: method 99", moods(x, 99950000L), -3);
        due("40: method 8 of class 0", moods(x, 850000L), -3);
        due("40: class 10", moods(x, 100000000L), -3);
        due("40: the last of class 9", moods(x, 90799999L), 0);
        due("40: the first of class 0", moods(x, 0L), 0);
        // The first number of each class is of that class, the one ahead of it of none.
        OrderMerge y = Check.told("house mood 0;class;class;class;class;class;class;class;class;class;class;method 0 in 9 ends;"
            + "method 0 in 5 ends;method 0 in 1 ends;says:0-500*100+in-1;");
        for (int c = 0; c < 10; c++) {
            boolean defines = c == 1 || c == 5 || c == 9;
            for (int more = 0; more < 10; more++) {
                due("40: the first numbers of class " + c, moods(y, 10000000L * c + more), defines && more == c - 1 ? 1023 : 0);
            }
            due("40: the last number ahead of class " + c, moods(y, 10000000L * c - 1), -3);
        }
    }

    /** The new class that would be is none, though the house has ten. */
    private static void whatWouldBeIsNotTold() {
        OrderMerge x = Check.told("house mood 0;class;class;class;class;class;class;class;class;class;class;");
        Check.fill(x, 0, 0, 3);
        due("35: it would have an order", x.would(0), 0);
        due("40: class 10", moods(x, told(10, 0, 0)), -3);
        due("41: class 10", x.attempt(1), -3);
        due("7: class 10", x.state(10), -2);
        due("8: class 10", x.order(10, 1), -2);
        due("9: class 10", x.place(10, 3), -2);
        due("9: class 10", x.place(3, 10), -2);
        due("29: class 10", x.call(10, 0), -99000002);
        due("34: class 10", x.common(10, 3), -2);
        due("46: class 10", x.lists(0, 10), -2);
        due("35: class 10 is no parent", writeParent(x, 10), -3);
    }

    private static int writeParent(OrderMerge x, int parent) {
        x.write(0, 0, parent);
        return x.would(0);
    }

    private static void callsToNone() {
        OrderMerge x = Check.told("house mood 0;class;method 0 in 0 ends;says:0;seen:mood<3;");
        due("40: where it goes to one", moods(x, told(0, 0, 0)), 7);
        due("40: it goes to none", moods(x, told(0, 1, 0)), 0);
        due("40: what stands for none can't be told", moods(x, told(0, 1, -1)), 0);
    }

    private static void theMoodStays() {
        OrderMerge x = Check.told("house mood 3;class;method 0 in 0 ends;says:mood;");
        x.mood(4);
        due("40: mood 8", moods(x, told(0, 0, 8)), 256);
        due("41: mood 8", attempt(x, told(0, 0, 8)), 0);
        due("49: the mood stays", x.count(3), 4);
        due("29: the mood stays", x.call(0, 0), 4);
        due("17: no more to undo", x.count(6), 1);
    }

    /** "-2: the TRAY; -6; -4; -3: one isn't so (below 0, no CLASS, one without an ORDER, a METHOD above 7)." */
    private static void toldCodes() {
        OrderMerge x = Check.told("house mood 0;class;class 0;class 0 1;class 2;method 0 in 0 ends;");
        for (int tray : new int[] {-1, 4, LEAST, MOST}) {
            due("40: the tray", x.moods(tray), -2);
            due("41: the tray", x.attempt(tray), -2);
        }
        due("40: missing", x.moods(1), -6);
        due("41: missing", x.attempt(1), -6);
        long good = told(1, 7, 0);
        long[] bad = {-1, -50000, Long.MIN_VALUE, told(2, 0, 0), told(3, 0, 0), told(4, 0, 0), told(9, 0, 0), told(10, 0, 0),
            told(0, 8, 0), told(1, 9, 0), told(1, 99, 0), Long.MAX_VALUE, 10000000L << 32, 1L << 62};
        for (long v : bad) {
            due("40: " + v, moods(x, v), -3);
            due("41: " + v, x.attempt(1), -3);
            due("40: first " + v, moods(x, v, good), -3);
            due("41: first " + v, x.attempt(1), -3);
            due("40: last " + v, moods(x, good, good, good, good, good, good, good, v), -3);
            due("41: last " + v, x.attempt(1), -3);
            due("40: one too many, ahead of " + v, moods(x, v, v, v, v, v, v, v, v, v), -4);
        }
        due("40: these are so", moods(x, good), 0);
    }

    private static final String PARTS = "house mood 0;class;class 0;class;method 0 in 0 ends;";

    /** "The greatest number of these MOODS by which it SAYS the same .. is least." */
    private static void leastOfTheGreatest() {
        // Method 1 parts the moods 9 and 1, method 2 into five and five, method 3 into 4, 3 and 3.
        OrderMerge x = Check.told(PARTS + "method 1 in 0 ends;method 2 in 0 ends;method 3 in 0 ends;says:if method=0 then 0 else "
            + "if method=1 then if mood=4 then 1 else 2 end else if method=2 then if mood<5 then 1 else 2 end else "
            + "if mood<4 then 1 else if mood<7 then 2 else 3 end end end end end;");
        due("41: at most four alike", attempt(x, told(0, 0, 0)), 3);
        x.define(0, 3, 2);
        due("41: at most five alike", attempt(x, told(0, 0, 0)), 2);
        x.define(0, 2, 2);
        due("41: at most nine alike", attempt(x, told(0, 0, 0)), 1);
        x.define(0, 1, 2);
        due("41: all ten alike", attempt(x, told(0, 0, 0)), 0);
    }

    /** "The first": by the class, then by the method. */
    private static void theFirstOfLikeOnes() {
        OrderMerge x = Check.told(PARTS + "method 5 in 0 ends;method 3 in 1 ends;method 2 in 2 ends;says:if method=0 then 0 else "
            + "mood end;");
        due("41: class 0 ahead of class 1", attempt(x, told(0, 0, 0)), 5);
        x.define(0, 5, 2);
        due("41: class 1 ahead of class 2", attempt(x, told(0, 0, 0)), 13);
        x.define(1, 1, 0);
        due("41: method 1 ahead of method 3", attempt(x, told(0, 0, 0)), 11);
        x.define(1, 1, 2);
        x.define(1, 3, 2);
        due("41: class 2", attempt(x, told(0, 0, 0)), 22);
    }

    /** "By which it SAYS the same (or goes to none)": that is an answer like others, and none of them. */
    private static void toNoneIsOneAnswer() {
        OrderMerge x = Check.told(PARTS + "method 1 in 0 ends;says:0;seen:method=0 or mood<4;");
        // Seen by four moods, to none by six; without it all ten are alike.
        due("41: to none parts", attempt(x, told(0, 0, 0)), 1);
        due("40: it is so by those that see it", moods(x, told(0, 1, 0)), 15);
        due("41: all alike", attempt(x, told(0, 1, 0)), 0);
    }

    private static void ofTheseMoodsAlone() {
        OrderMerge x = Check.told(PARTS + "method 1 in 0 ends;method 2 in 0 ends;says:if method=0 then if mood<3 then 0 else 1 end "
            + "else if method=1 then if mood>2 then mood else 0 end else if mood=1 then 1 else 0 end end end;");
        due("40: three moods", moods(x, told(0, 0, 0)), 7);
        due("41: method 1 tells them not apart, method 2 does", attempt(x, told(0, 0, 0)), 2);
        due("40: seven moods", moods(x, told(0, 0, 1)), 1023 - 7);
        due("41: method 1 tells them apart", attempt(x, told(0, 0, 1)), 1);
    }

    /** Mood 0 counts like the others: method 1 tells 2 apart from 0 and 1, method 2 all three. */
    private static void moodZeroCounts() {
        OrderMerge x = Check.told(PARTS + "method 1 in 0 ends;method 2 in 0 ends;says:if method=0 then if mood<3 then 0 else 1 end "
            + "else if method=1 then if mood<2 then 1 else 2 end else mood end end;");
        due("40: moods 0, 1 and 2", moods(x, told(0, 0, 0)), 7);
        due("41: all three apart", attempt(x, told(0, 0, 0)), 2);
        due("40: moods 0 and 1", moods(x, told(0, 1, 1)), 3);
        due("41: both apart", attempt(x, told(0, 1, 1)), 2);
        x.define(0, 2, 2);
        due("41: at most two alike", attempt(x, told(0, 0, 0)), 1);
        due("41: both alike", attempt(x, told(0, 1, 1)), 0);
    }

    /** "NONE: there are none." */
    private static void noneAreLeft() {
        OrderMerge x = Check.told(PARTS + "says:mood;");
        due("40: none", moods(x, told(0, 0, 10)), 0);
        due("41: none", attempt(x, told(0, 0, 10)), -1);
        due("41: one is left", attempt(x, told(0, 0, 9)), 0);
    }

    private static void chanceIs(OrderMerge x, int n, int over, int under) {
        due("42: chance(" + n + ", 0)", x.chance(n, 0), over);
        due("42: chance(" + n + ", 1)", x.chance(n, 1), under);
    }

    private static void meanIs(OrderMerge x, int n, int over, int under) {
        due("43: mean(" + n + ", 0)", x.mean(n, 0), over);
        due("43: mean(" + n + ", 1)", x.mean(n, 1), under);
    }

    /** "Behind n lots (0 to 3)": behind none it is as it is. */
    private static void noLots() {
        OrderMerge x = Check.told("house mood 0;class;class 0;class 0 1;class 2;");
        chanceIs(x, 0, 0, 1);
        meanIs(x, 0, 2, 1);
        x.swap(2, 0);
        chanceIs(x, 0, 1, 1);
        meanIs(x, 0, 4, 1);
    }

    /** "By lot v the first two PARENTS of CLASS v SWAP (of others, without two: nothing)." */
    private static void lotsThatDoNothing() {
        OrderMerge x = Check.told("house mood 0;class;class 0;class 1;class;class 3;");
        for (int n = 0; n <= 3; n++) {
            chanceIs(x, n, 1, 1);
            meanIs(x, n, 5, 1);
        }
        // The first two alone: 2's place among the three doesn't change, 0 and 1 do.
        OrderMerge y = Check.told("house mood 0;class;class;class 0;class 1 0 2;");
        due("7: 0 ahead of its heir", y.state(3), 1);
        for (int n = 0; n <= 3; n++) {
            chanceIs(y, n, 0, 1);
            meanIs(y, n, 3, 1);
        }
        OrderMerge z = Check.told("house mood 0;class;class 0;class;class 0 1 2;");
        chanceIs(z, 1, 1, 10);
        OrderMerge ten = Check.told("house mood 0;class;class 0;class;class;class;class;class;class;class;class 0 1;");
        chanceIs(ten, 1, 1, 10);
        meanIs(ten, 1, 91, 10);
    }

    /** A second lot of the same class swaps back: one of ten, 18 of 100, 244 of 1000. */
    private static void swappedAndBack() {
        OrderMerge x = Check.told("house mood 0;class;class 0;class 0 1;");
        chanceIs(x, 1, 1, 10);
        chanceIs(x, 2, 9, 50);
        chanceIs(x, 3, 61, 250);
        meanIs(x, 1, 21, 10);
        meanIs(x, 2, 109, 50);
        meanIs(x, 3, 561, 250);
        // Two that must be swapped both: two of 100; with one of eight others 48 of 1000.
        OrderMerge y = Check.told("house mood 0;class;class 0;class 0 1;class 0 1;");
        chanceIs(y, 1, 0, 1);
        chanceIs(y, 2, 1, 50);
        chanceIs(y, 3, 6, 125);
    }

    private static void sureAndNever() {
        OrderMerge sure = Check.told("house mood 0;class;class;class;class;class;class;class;class;class;class 8 7;");
        OrderMerge never = Check.told("house mood 0;class;class;class 0 1;class;class 0;class 3 0 4;");
        due("7: refused whatever is swapped", never.state(5), 1);
        for (int n = 0; n <= 3; n++) {
            chanceIs(sure, n, 1, 1);
            meanIs(sure, n, 10, 1);
            chanceIs(never, n, 0, 1);
            meanIs(never, n, 5, 1);
        }
    }

    private static void lowestTerms() {
        OrderMerge x = Check.told("house mood 0;class;class 0;class 0 1;class 0 1;class 1 0;class 2 3;class 4 3;");
        for (int n = 0; n <= 3; n++) {
            for (int by = 2; by <= 10; by++) {
                due("42: " + n + " in lowest terms", x.chance(n, 0) % by == 0 && x.chance(n, 1) % by == 0 ? 1 : 0, 0);
                due("43: " + n + " in lowest terms", x.mean(n, 0) % by == 0 && x.mean(n, 1) % by == 0 ? 1 : 0, 0);
            }
            due("42: below is no less than above", x.chance(n, 1) >= x.chance(n, 0) ? 1 : 0, 1);
        }
        due("49: nothing was swapped", x.parent(2, 0), 0);
        due("49: nothing can be undone", x.count(6), 0);
    }

    private static void chanceCodes() {
        OrderMerge x = Check.told("house mood 0;class;");
        for (int what : new int[] {-1, 2, LEAST, MOST}) {
            for (int n : new int[] {0, 3, -1, 4, LEAST, MOST}) {
                due("42: what, told first", x.chance(n, what), -2);
                due("43: what, told first", x.mean(n, what), -2);
            }
        }
        for (int n : new int[] {-1, 4, LEAST, MOST}) {
            for (int what = 0; what < 2; what++) {
                due("42: n", x.chance(n, what), -3);
                due("43: n", x.mean(n, what), -3);
            }
        }
    }
}
