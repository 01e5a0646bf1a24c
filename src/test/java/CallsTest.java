/** Promises 29 to 33: call, through, serves, dead, firstDead. */
public final class CallsTest {
    private static final int TO_NONE = -99000001;
    private static final Check CHECK = new Check();

    public static void main(String[] args) {
        withoutLaws();
        codes();
        atoms();
        sums();
        truths();
        nextAndKept();
        seen();
        deadOnes();
        CHECK.end();
    }

    private static void due(String what, long got, long want) {
        CHECK.due(what, got, want);
    }

    private static void throughIs(OrderMerge x, int c, int m, int... row) {
        for (int i = 0; i < row.length; i++) {
            due("30: through(" + c + ", " + m + ", " + i + ")", x.through(c, m, i), row[i]);
        }
        due("30: the end of through(" + c + ", " + m + ")", x.through(c, m, row.length), -1);
    }

    private static void withoutLaws() {
        OrderMerge x = Check.told("house mood 3;class;class 0;class 0;class 1 2;method 5 in 0 next;method 5 in 1 next;"
            + "method 5 in 2 ends;method 2 in 3 next;method 2 in 0 ends;method 7 in 0 next;");
        due("29: 10 and 5, 20 and 5", x.call(3, 5), 40);
        throughIs(x, 3, 5, 1, 2);
        due("29: 10 and 5, 5", x.call(1, 5), 20);
        throughIs(x, 1, 5, 1, 0);
        due("29: ends", x.call(2, 5), 25);
        due("29: 30 and 2, 2", x.call(3, 2), 34);
        throughIs(x, 3, 2, 3, 0);
        due("29: goes on to none", x.call(2, 7), 7);
        throughIs(x, 2, 7, 0);
        due("29: to none", x.call(3, 0), TO_NONE);
        throughIs(x, 3, 0);
        due("31: serves", x.serves(0, 5), 1);
        due("31: serves", x.serves(1, 5), 2 | 8);
        due("31: serves", x.serves(2, 5), 4);
        due("31: serves", x.serves(3, 5), 0);
        due("31: serves", x.serves(0, 2), 7);
        due("31: serves none", x.serves(0, 0), 0);
        due("32: all are gone through", x.dead(), 0);
        due("33: none", x.firstDead(), -1);
    }

    private static void codes() {
        OrderMerge x = Check.told("house mood 0;class;class 0;class 0 1;class 2;method 0 in 0 ends;method 0 in 2 ends;");
        due("29: class", x.call(4, 0), -99000002);
        due("29: class", x.call(-1, 0), -99000002);
        due("29: method", x.call(0, 8), -99000002);
        due("29: method ahead of order", x.call(2, -1), -99000002);
        due("29: refused", x.call(2, 0), -99000005);
        due("29: lost", x.call(3, 0), -99000005);
        due("30: class", x.through(4, 0, -1), -2);
        due("30: method", x.through(0, 8, -1), -2);
        due("30: i ahead of order", x.through(2, 0, -1), -3);
        due("30: refused", x.through(2, 0, 0), -5);
        due("30: lost", x.through(3, 0, 9), -5);
        due("30: far", x.through(0, 0, Integer.MAX_VALUE), -1);
        due("31: class", x.serves(4, 0), -2);
        due("31: method", x.serves(0, 8), -2);
        due("31: method", x.serves(0, -1), -2);
        due("31: one without an order", x.serves(2, 0), 0);
        due("32: in a refused class", x.dead(), 1);
        due("33: in a refused class", x.firstDead(), 20);
    }

    private static OrderMerge lawful(String laws) {
        return Check.told("house mood 7;class;class 0;class 1;method 4 in 0 ends;method 4 in 1 next;" + laws);
    }

    private static void says(String law, int due) {
        due("29: " + law, lawful("says:" + law + ";").call(2, 4), due);
    }

    private static void atoms() {
        says("method", 4);
        says("in", 1);
        says("for", 2);
        says("mood", 7);
        says("depth", 1);
        due("29: depth for itself", lawful("says:depth;").call(1, 4), 0);
        due("29: for itself", lawful("says:for;").call(0, 4), 0);
        says("next*0+999", 999);
        says("012", 12);
        due("29: the later law strikes", lawful("says:1;says:2;").call(2, 4), 2);
        OrderMerge x = lawful("says:mood;");
        x.mood(2);
        due("29: another mood", x.call(2, 4), 2);
    }

    private static void sums() {
        says("2+3*4", 14);
        says("(2+3)*4", 20);
        says("2-3-4", -5);
        says("2-(3-4)", 3);
        says("2-3*4+5", -5);
        says("999*999", 998001);
        says("999*999*2", 1000000);
        says("999*999*2-1", 999999);
        says("0-999*999*2", -1000000);
        says("0-999*999*2-5+1", -999999);
        says("999*999+999+999+999-999", 999001);
        says("(0-999*999*2)*(999*999*2)", -1000000);
        says("(0-999*999*2)*(0-999*999*2)-1", 999999);
    }

    private static void truths() {
        says("if 1=1 then 5 else 6 end", 5);
        says("if 1=2 then 5 else 6 end", 6);
        says("if 1<2 then 5 else 6 end", 5);
        says("if 2<2 then 5 else 6 end", 6);
        says("if 3>2 then 5 else 6 end", 5);
        says("if 2>2 then 5 else 6 end", 6);
        says("if not 1=1 then 5 else 6 end", 6);
        says("if not not 1=1 then 5 else 6 end", 5);
        says("if 1=1 or 1=1 and 1=2 then 5 else 6 end", 5);
        says("if [1=1 or 1=1]and 1=2 then 5 else 6 end", 6);
        says("if not 1=2 and 1=1 then 5 else 6 end", 5);
        says("if not [1=2 and 1=1]then 5 else 6 end", 5);
        says("if not 1=2 or 1=1 and 1=2 then 5 else 6 end", 5);
        says("if not 1=1 or 1=2 then 5 else 6 end", 6);
        says("if 1+1=2*1 then 5 else 6 end*2+1", 11);
        says("if if 1=1 then 1 else 2 end=1 then if 1=2 then 3 else 4 end else 5 end", 4);
        says("((((if 1=1 and 2=2 then(7)else 1 end))))", 7);
    }

    private static void nextAndKept() {
        OrderMerge x = Check.told("house mood 1;class;class 0;class 1;class 2;method 1 in 0 next;method 1 in 1 next;"
            + "method 1 in 2 next;method 1 in 3 next;says:next*2+1;");
        due("29: next is 0 at the last", x.call(0, 1), 1);
        due("29: next", x.call(1, 1), 3);
        due("29: next", x.call(3, 1), 15);
        x.define(1, 1, 0);
        due("29: next is 0 where it ends", x.call(3, 1), 7);
        Check.tell(x, "house mood 1;class;class 0;class 1;method 1 in 0 ends;method 1 in 1 next;method 1 in 2 next;"
            + "says:if in=0 then 999*999 else next*2 end;");
        due("29: kept", x.call(2, 1), 1000000);
        Check.tell(x, "house mood 1;class;class 0;class 1;method 1 in 0 ends;method 1 in 1 next;method 1 in 2 next;"
            + "says:in*100+depth*10+for;");
        due("29: depth, in, for", x.call(2, 1), 202);
        due("29: depth, in, for", x.call(1, 1), 101);
    }

    private static void seen() {
        OrderMerge x = Check.told("house mood 3;class;class 0;class 1;method 6 in 0 ends;method 6 in 1 ends;"
            + "method 6 in 2 next;method 5 in 0 ends;seen:in<for or mood>4 and method=6;");
        due("29: not seen in itself", x.call(0, 6), TO_NONE);
        due("29: seen above", x.call(1, 6), 6);
        due("29: seen above", x.call(2, 6), 16);
        due("30: it ends there", x.through(2, 6, 1), -1);
        due("31: serves", x.serves(0, 6), 2);
        due("31: serves", x.serves(1, 6), 4);
        due("31: serves", x.serves(2, 6), 0);
        due("32: dead", x.dead(), 1);
        due("33: first dead", x.firstDead(), 26);
        x.mood(5);
        due("29: seen by the mood", x.call(0, 6), 6);
        throughIs(x, 2, 6, 2, 1);
        due("29: seen by the mood", x.call(2, 6), 26 + 16);
        due("29: another method", x.call(0, 5), TO_NONE);
        due("32: none is dead", x.dead(), 0);
        Check.tell(x, "house mood 0;class;method 0 in 0 ends;seen:1=2;seen:2=2;");
        due("29: the later law strikes", x.call(0, 0), 0);
        Check.tell(x, "house mood 0;class;method 0 in 0 ends;seen:1=2;");
        due("29: none is seen", x.call(0, 0), TO_NONE);
        due("32: dead", x.dead(), 1);
        due("33: the first of all", x.firstDead(), 0);
    }

    private static void deadOnes() {
        OrderMerge x = Check.told("house mood 0;class;class;class 0 1;class 1 0;class 2 3;class 4;method 7 in 5 ends;"
            + "method 0 in 5 ends;method 3 in 4 next;method 3 in 0 ends;");
        due("32: in lost and refused ones", x.dead(), 3);
        due("33: by the class, then the method", x.firstDead(), 43);
        x.define(4, 3, 2);
        due("33: then the method", x.firstDead(), 50);
        x.take(2, 1);
        due("33: all have orders", x.dead(), 0);
    }
}
