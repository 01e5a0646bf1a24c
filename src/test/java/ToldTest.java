/** Promises 40 and 41: moods, attempt. */
public final class ToldTest {
    private static final Check CHECK = new Check();

    public static void main(String[] args) {
        moods();
        attempts();
        codes();
        CHECK.end();
    }

    private static void due(String what, long got, long want) {
        CHECK.due(what, got, want);
    }

    private static long told(int c, int m, int says) {
        return 10000000L * c + 100000L * m + says + 50000;
    }

    private static void moods() {
        OrderMerge x = Check.told("house mood 2;class;class 0;method 0 in 0 ends;method 1 in 0 ends;method 2 in 1 next;"
            + "says:if method=0 then mood*100-300 else if mood>5 then 1 else 0 end end;seen:not method=1 or mood<8;");
        Check.fill(x, 0, 2, told(0, 0, -300));
        due("40: one mood", x.moods(0), 1);
        Check.fill(x, 0, 2, told(1, 0, 600));
        due("40: one mood", x.moods(0), 512);
        Check.fill(x, 0, 2, told(1, 1, 1));
        due("40: where it is seen", x.moods(0), 64 | 128);
        Check.fill(x, 0, 2, told(1, 1, 0));
        due("40: six moods", x.moods(0), 63);
        Check.fill(x, 0, 2, told(1, 1, 1), told(0, 0, 300));
        due("40: all told is so", x.moods(0), 64);
        Check.fill(x, 0, 2, told(1, 1, 0), told(0, 0, 300));
        due("40: at odds", x.moods(0), 0);
        Check.fill(x, 0, 2, told(0, 3, 0));
        due("40: a call to none says nothing", x.moods(0), 0);
        due("40: the mood stays", x.count(3), 2);
        due("40: nothing to undo", x.count(6), 0);
        OrderMerge z = Check.told("house mood 0;class;method 0 in 0 ends;says:if mood=0 then 0-999*50-50"
            + " else if mood=1 then 999*50+49 else 999*50+50 end end;");
        Check.fill(z, 0, 2, 0);
        due("40: -50,000", z.moods(0), 1);
        Check.fill(z, 0, 2, 99999);
        due("40: 49,999", z.moods(0), 2);
        Check.fill(z, 0, 2, 100000);
        due("40: 50,000 is the next method's -50,000", z.moods(0), 0);
        OrderMerge w = Check.told("house mood 0;class;method 0 in 0 ends;");
        Check.fill(w, 3, 3, told(0, 0, 0), told(0, 0, 0), told(0, 0, 0), told(0, 0, 0), told(0, 0, 0), told(0, 0, 0),
            told(0, 0, 0), told(0, 0, 0));
        due("40: eight, all moods", w.moods(3), 1023);
    }

    private static void attempts() {
        OrderMerge x = Check.told("house mood 2;class;class 0;method 0 in 0 ends;method 1 in 0 ends;method 2 in 1 next;"
            + "method 3 in 1 ends;says:if method=0 then 7 else if method=1 then if mood<4 then 1 else 2 end else mood end end;"
            + "seen:not method=3 or mood>4;");
        Check.fill(x, 0, 2, told(0, 0, 7));
        due("40: all moods", x.moods(0), 1023);
        // Method 2 of class 1 tells all moods apart.
        due("41: the best", x.attempt(0), 12);
        x.define(1, 2, 2);
        // Method 3: five to none, the others apart: 5. Method 1: 4 and 6: 6.
        due("41: to none is one answer", x.attempt(0), 13);
        x.define(1, 3, 2);
        due("41: six alike", x.attempt(0), 1);
        x.define(0, 1, 2);
        due("41: all alike: the first", x.attempt(0), 0);
        Check.fill(x, 0, 2, told(0, 0, 8));
        due("41: no moods", x.attempt(0), -1);
        OrderMerge y = Check.told("house mood 0;class;class 0;class 0 1;class;method 0 in 0 ends;method 1 in 2 ends;"
            + "method 1 in 3 ends;says:if method=0 then 7 else mood end;");
        Check.fill(y, 0, 2, told(0, 0, 7));
        due("41: of classes with an order", y.attempt(0), 31);
        Check.fill(y, 0, 2, told(3, 1, 4));
        due("41: one mood: the first", y.attempt(0), 0);
    }

    private static void codes() {
        OrderMerge x = Check.told("house mood 0;class;class 0;class 0 1;class 2;method 0 in 0 ends;");
        due("40: tray", x.moods(4), -2);
        due("40: tray", x.moods(-1), -2);
        due("40: missing", x.moods(0), -6);
        due("41: tray", x.attempt(4), -2);
        due("41: missing", x.attempt(0), -6);
        x.numbers(0, 2, 0);
        due("40: no numbers", x.moods(0), -4);
        due("41: no numbers", x.attempt(0), -4);
        x.numbers(0, 2, 9);
        due("40: nine numbers", x.moods(0), -4);
        due("41: nine numbers", x.attempt(0), -4);
        long[] bad = {-1, told(4, 0, 0), told(2, 0, 0), told(3, 0, 0), told(0, 8, 0), told(0, 99, 0), Long.MAX_VALUE,
            Long.MIN_VALUE, 10000000L * (1L << 32)};
        for (long v : bad) {
            Check.fill(x, 0, 3, told(0, 0, 0), v);
            due("40: " + v, x.moods(0), -3);
            due("41: " + v, x.attempt(0), -3);
            Check.fill(x, 0, 3, v, told(0, 0, 0));
            due("40: first " + v, x.moods(0), -3);
            due("41: first " + v, x.attempt(0), -3);
        }
        Check.fill(x, 0, 3, told(0, 7, 49999), told(1, 7, -50000));
        due("40: the edges", x.moods(0), 0);
    }
}
